/**
 * Pieces of pictures, triangles on a grid of 16ths of a pixel, among which
 * those are found that cover a pixel, and the nearest of them.
 */
public final class PieceBoxes {
    public static final int NONE = -1;

    private static final int MOST_PIECES = 512;
    private static final int CORNERS = 3;
    private static final int FARTHEST = 4096;
    private static final int GREATEST_R = 1048576;
    private static final long PIXEL = 16;
    private static final long HALF_PIXEL = 8;

    // The text lies behind the last piece in the same rows, so that its AREA
    // is worked out by the same lines as that of a piece.
    private static final int TEXT = MOST_PIECES;

    // Corner k of slot s is at s * CORNERS + k; slots are pieces or TEXT.
    private final int[] xs;
    private final int[] ys;
    private final int[] rs;
    private int pieces;

    public PieceBoxes() {
        int length = (MOST_PIECES + 1) * CORNERS;
        xs = new int[length];
        ys = new int[length];
        rs = new int[length];
        for (int k = 0; k < CORNERS; k++) {
            rs[TEXT * CORNERS + k] = 1;
        }
        pieces = 0;
    }

    public boolean corner(int k, int x, int y, int r) {
        if (k < 0 || k >= CORNERS) {
            return false;
        }
        if (!isOnGrid(x) || !isOnGrid(y) || r < 1 || r > GREATEST_R) {
            return false;
        }
        int at = TEXT * CORNERS + k;
        xs[at] = x;
        ys[at] = y;
        rs[at] = r;
        return true;
    }

    public int add() {
        if (pieces >= MOST_PIECES || areaOf(TEXT) <= 0) {
            return NONE;
        }
        int number = pieces;
        for (int k = 0; k < CORNERS; k++) {
            int from = TEXT * CORNERS + k;
            int to = number * CORNERS + k;
            xs[to] = xs[from];
            ys[to] = ys[from];
            rs[to] = rs[from];
        }
        pieces = number + 1;
        return number;
    }

    public void clear() {
        pieces = 0;
    }

    public int count() {
        return pieces;
    }

    public int area(int piece) {
        if (!isPiece(piece)) {
            return NONE;
        }
        // At most 8192 * 8192, the whole grid's square.
        return (int) areaOf(piece);
    }

    public int near(int piece, int x, int y) {
        if (!isPiece(piece) || !covers(piece, middle(x), middle(y))) {
            return NONE;
        }
        return nearnessOf(piece, middle(x), middle(y));
    }

    public int nearest(int x, int y) {
        int best = NONE;
        // A piece that covers the pixel has a nearness of at least 1, its
        // least r, so it always beats NONE, and a tie leaves the earlier one.
        int bestNearness = NONE;
        for (int piece = 0; piece < pieces; piece++) {
            int nearness = near(piece, x, y);
            if (nearness > bestNearness) {
                best = piece;
                bestNearness = nearness;
            }
        }
        return best;
    }

    public int covering(int x, int y) {
        int found = 0;
        for (int piece = 0; piece < pieces; piece++) {
            if (covers(piece, middle(x), middle(y))) {
                found++;
            }
        }
        return found;
    }

    public int next(int x, int y, int from) {
        for (int piece = Math.max(from, 0); piece < pieces; piece++) {
            if (covers(piece, middle(x), middle(y))) {
                return piece;
            }
        }
        return NONE;
    }

    private static boolean isOnGrid(int place) {
        return place >= -FARTHEST && place <= FARTHEST;
    }

    // A long, since a pixel may be any int and its middle lies beyond them.
    private static long middle(int pixel) {
        return PIXEL * pixel + HALF_PIXEL;
    }

    private boolean isPiece(int number) {
        return number >= 0 && number < pieces;
    }

    // AREA is just the E of the edge 0 1, the one against corner 2, there.
    private long areaOf(int slot) {
        int last = slot * CORNERS + 2;
        return edge(slot, 2, xs[last], ys[last]);
    }

    // E of the edge against corner k: 1 2 for 0, 2 0 for 1 and 0 1 for 2.
    private long edge(int slot, int k, long x, long y) {
        int a = edgeStart(slot, k);
        int b = edgeEnd(slot, k);
        long right = xs[b] - xs[a];
        long down = ys[b] - ys[a];
        return right * (y - ys[a]) - down * (x - xs[a]);
    }

    private static int edgeStart(int slot, int k) {
        return slot * CORNERS + (k + 1) % CORNERS;
    }

    private static int edgeEnd(int slot, int k) {
        return slot * CORNERS + (k + 2) % CORNERS;
    }

    private boolean covers(int piece, long x, long y) {
        for (int k = 0; k < CORNERS; k++) {
            long e = edge(piece, k, x, y);
            if (e < 0 || (e == 0 && !ownsEdge(piece, k))) {
                return false;
            }
        }
        return true;
    }

    // Of two pieces that share an edge, just one owns the middles on it.
    private boolean ownsEdge(int piece, int k) {
        int a = edgeStart(piece, k);
        int b = edgeEnd(piece, k);
        return ys[b] < ys[a] || (ys[b] == ys[a] && xs[b] > xs[a]);
    }

    // Only for a middle that the piece covers: each E is then 0 .. AREA and
    // they add up to AREA, so that the answer lies between the least r and
    // the greatest.
    private int nearnessOf(int piece, long x, long y) {
        long sum = 0;
        for (int k = 0; k < CORNERS; k++) {
            sum += edge(piece, k, x, y) * rs[piece * CORNERS + k];
        }
        long area = areaOf(piece);
        if (area <= 0) {
            return NONE;
        }
        return (int) Math.floorDiv(sum, area);
    }
}
