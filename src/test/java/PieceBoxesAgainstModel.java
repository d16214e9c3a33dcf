import java.math.BigInteger;
import java.util.ArrayList;
import java.util.List;
import java.util.Random;

// Runs of calls, drawn with fixed seeds, on an object and on a model that is
// the document's words over whole numbers without a bound.
public final class PieceBoxesAgainstModel {
    private static final int RUNS = 600;
    private static final int CALLS = 512;
    private static final int NONE = -1;

    private static int wrong = 0;

    public static void main(String[] args) {
        for (int run = 0; run < RUNS; run++) {
            // Small grids make middles on edges and ties frequent.
            int span = new int[] {2, 8, 64, 512}[run % 4];
            new Run(run, span).go();
        }
        System.out.println(wrong == 0
                ? "all answers are as due" : wrong + " answers are not as due");
        if (wrong != 0) {
            System.exit(1);
        }
    }

    private static final class Run {
        private final int run;
        private final int span;
        private final Random random;
        private final PieceBoxes box = new PieceBoxes();
        private final Model model = new Model();

        Run(int run, int span) {
            this.run = run;
            this.span = span;
            this.random = new Random(run);
        }

        void go() {
            for (int call = 0; call < CALLS; call++) {
                step(random.nextInt(100));
            }
        }

        private void step(int kind) {
            if (kind < 40) {
                int k = random.nextInt(60) == 0 ? odd() : random.nextInt(3);
                int x = place();
                int y = place();
                int r = r();
                due("corner(" + k + ", " + x + ", " + y + ", " + r + ")",
                        box.corner(k, x, y, r) ? 1 : 0, model.corner(k, x, y, r) ? 1 : 0);
            } else if (kind < 60) {
                due("add()", box.add(), model.add());
            } else if (kind == 60 && random.nextInt(3) == 0) {
                box.clear();
                model.pieces.clear();
            } else if (kind < 64) {
                due("count()", box.count(), model.pieces.size());
            } else if (kind < 70) {
                int piece = piece();
                due("area(" + piece + ")", box.area(piece), model.area(piece));
            } else {
                ask(kind, pixel(), pixel());
            }
        }

        private void ask(int kind, int x, int y) {
            String at = x + ", " + y;
            if (kind < 80) {
                int piece = piece();
                due("near(" + piece + ", " + at + ")",
                        box.near(piece, x, y), model.near(piece, x, y));
            } else if (kind < 87) {
                due("nearest(" + at + ")", box.nearest(x, y), model.nearest(x, y));
            } else if (kind < 93) {
                due("covering(" + at + ")", box.covering(x, y), model.covering(x, y));
            } else {
                int from = piece();
                due("next(" + at + ", " + from + ")",
                        box.next(x, y, from), model.next(x, y, from));
            }
        }

        private int odd() {
            int[] odds = {-1, 3, Integer.MIN_VALUE, Integer.MAX_VALUE, 511, 512, 513};
            return odds[random.nextInt(odds.length)];
        }

        private int place() {
            if (random.nextInt(60) == 0) {
                int[] edges = {-4097, -4096, 4096, 4097, Integer.MIN_VALUE, Integer.MAX_VALUE};
                return edges[random.nextInt(edges.length)];
            }
            int step = random.nextBoolean() ? 8 : 1;
            return (random.nextInt(16 * span / step + 1) - 8 * span / step) * step;
        }

        private int r() {
            if (random.nextInt(60) == 0) {
                int[] edges = {0, 1048577, -1, Integer.MIN_VALUE, Integer.MAX_VALUE};
                return edges[random.nextInt(edges.length)];
            }
            return 1 + random.nextInt(random.nextBoolean() ? 4 : 1048576);
        }

        private int pixel() {
            if (random.nextInt(40) == 0) {
                return random.nextBoolean() ? random.nextInt() : 1 << 28;
            }
            return random.nextInt(span + 2) - span / 2 - 1;
        }

        private int piece() {
            return random.nextInt(20) == 0 ? odd() : random.nextInt(model.pieces.size() + 1);
        }

        private void due(String call, int got, int want) {
            if (got != want) {
                wrong++;
                System.out.println("run " + run + ": " + call
                        + " answered " + got + ", due is " + want);
            }
        }
    }

    private static final class Model {
        private final long[][] text = {{0, 0, 1}, {0, 0, 1}, {0, 0, 1}};
        private final List<long[][]> pieces = new ArrayList<>();

        boolean corner(int k, int x, int y, int r) {
            boolean fits = 0 <= k && k <= 2 && -4096 <= x && x <= 4096
                    && -4096 <= y && y <= 4096 && 1 <= r && r <= 1048576;
            if (fits) {
                text[k] = new long[] {x, y, r};
            }
            return fits;
        }

        int add() {
            if (areaOf(text).signum() <= 0 || pieces.size() == 512) {
                return NONE;
            }
            pieces.add(new long[][] {text[0].clone(), text[1].clone(), text[2].clone()});
            return pieces.size() - 1;
        }

        int area(int piece) {
            return has(piece) ? areaOf(pieces.get(piece)).intValueExact() : NONE;
        }

        int near(int piece, int x, int y) {
            return has(piece) && covers(pieces.get(piece), x, y)
                    ? nearness(pieces.get(piece), x, y).intValueExact() : NONE;
        }

        int nearest(int x, int y) {
            int best = NONE;
            for (int n = 0; n < pieces.size(); n++) {
                if (covers(pieces.get(n), x, y) && (best == NONE
                        || nearness(pieces.get(n), x, y)
                                .compareTo(nearness(pieces.get(best), x, y)) > 0)) {
                    best = n;
                }
            }
            return best;
        }

        int covering(int x, int y) {
            int found = 0;
            for (long[][] piece : pieces) {
                found += covers(piece, x, y) ? 1 : 0;
            }
            return found;
        }

        int next(int x, int y, int from) {
            for (int n = 0; n < pieces.size(); n++) {
                if (n >= from && covers(pieces.get(n), x, y)) {
                    return n;
                }
            }
            return NONE;
        }

        private boolean has(int piece) {
            return piece >= 0 && piece < pieces.size();
        }

        private static BigInteger product(long a, long b) {
            return BigInteger.valueOf(a).multiply(BigInteger.valueOf(b));
        }

        private static BigInteger areaOf(long[][] c) {
            return product(c[1][0] - c[0][0], c[2][1] - c[0][1])
                    .subtract(product(c[2][0] - c[0][0], c[1][1] - c[0][1]));
        }

        private static BigInteger e(long[] a, long[] b, int i, int j) {
            long x = 16L * i + 8;
            long y = 16L * j + 8;
            return product(b[0] - a[0], y - a[1]).subtract(product(b[1] - a[1], x - a[0]));
        }

        private static boolean inside(long[] a, long[] b, int i, int j) {
            int sign = e(a, b, i, j).signum();
            return sign > 0 || (sign == 0 && b[1] < a[1])
                    || (sign == 0 && b[1] == a[1] && b[0] > a[0]);
        }

        private static boolean covers(long[][] c, int i, int j) {
            return inside(c[1], c[2], i, j) && inside(c[2], c[0], i, j)
                    && inside(c[0], c[1], i, j);
        }

        private static BigInteger nearness(long[][] c, int i, int j) {
            BigInteger sum = e(c[1], c[2], i, j).multiply(BigInteger.valueOf(c[0][2]))
                    .add(e(c[2], c[0], i, j).multiply(BigInteger.valueOf(c[1][2])))
                    .add(e(c[0], c[1], i, j).multiply(BigInteger.valueOf(c[2][2])));
            BigInteger[] parts = sum.divideAndRemainder(areaOf(c));
            return parts[1].signum() < 0 ? parts[0].subtract(BigInteger.ONE) : parts[0];
        }
    }
}
