import java.util.function.ToIntFunction;

// Each sentence of the document that names a boundary, quoted above its test:
// the last value that holds and the first that does not, and after a refused
// call the calls that show that nothing else changed.
public final class PieceBoxesBoundaries {
    private static final int LOW = Integer.MIN_VALUE;
    private static final int HIGH = Integer.MAX_VALUE;
    private static final int NONE = -1;
    private static final int FALSE = 0;
    private static final int TRUE = 1;

    private static int wrong = 0;

    public static void main(String[] args) {
        termsCorners();
        termsNearness();
        termsArea();
        termsPixels();
        termsEdges();
        termsDiv();
        newObject();
        corner();
        add();
        clear();
        count();
        area();
        near();
        nearest();
        covering();
        next();
        System.out.println(wrong == 0
                ? "all answers are as due" : wrong + " answers are not as due");
        if (wrong != 0) {
            System.exit(1);
        }
    }

    // ---- helpers ----

    private static void due(String call, long got, long want) {
        if (got != want) {
            wrong++;
            System.out.println(call + " answered " + got + ", due is " + want);
        }
    }

    private static int number(boolean answer) {
        return answer ? TRUE : FALSE;
    }

    // Nine numbers: x, y, r of the corners 0, 1 and 2.
    private static void text(PieceBoxes box, int... c) {
        for (int k = 0; k < 3; k++) {
            due("corner(" + k + ", " + c[3 * k] + ", " + c[3 * k + 1] + ", " + c[3 * k + 2] + ")",
                    number(box.corner(k, c[3 * k], c[3 * k + 1], c[3 * k + 2])), TRUE);
        }
    }

    private static PieceBoxes withPiece(int... c) {
        PieceBoxes box = new PieceBoxes();
        text(box, c);
        due("add of a first piece", box.add(), 0);
        return box;
    }

    // Covers the pixels i, j with 0 <= j <= i < pixels.
    private static void textOfHalf(PieceBoxes box, int pixels, int r) {
        int far = 16 * pixels;
        text(box, 0, 0, r, far, 0, r, far, far, r);
    }

    private static int addHalf(PieceBoxes box, int pixels, int r) {
        textOfHalf(box, pixels, r);
        return box.add();
    }

    // Two pieces, and a text that is neither of them.
    private static PieceBoxes prepared() {
        PieceBoxes box = new PieceBoxes();
        due("prepared: add", addHalf(box, 4, 10), 0);
        due("prepared: add", addHalf(box, 3, 30), 1);
        text(box, 0, 0, 8, 32, 0, 800, 0, 64, 80000);
        return box;
    }

    private static void preparedPieces(String after, PieceBoxes box) {
        due(after + ", then count()", box.count(), 2);
        due(after + ", then area(0)", box.area(0), 4096);
        due(after + ", then area(1)", box.area(1), 2304);
        due(after + ", then area(2)", box.area(2), NONE);
        due(after + ", then near(0, 3, 0)", box.near(0, 3, 0), 10);
        due(after + ", then near(0, 4, 0)", box.near(0, 4, 0), NONE);
        due(after + ", then near(1, 2, 2)", box.near(1, 2, 2), 30);
        due(after + ", then near(1, 3, 0)", box.near(1, 3, 0), NONE);
        due(after + ", then nearest(2, 0)", box.nearest(2, 0), 1);
        due(after + ", then nearest(3, 0)", box.nearest(3, 0), 0);
        due(after + ", then nearest(4, 0)", box.nearest(4, 0), NONE);
        due(after + ", then covering(2, 0)", box.covering(2, 0), 2);
        due(after + ", then covering(3, 0)", box.covering(3, 0), 1);
        due(after + ", then covering(4, 0)", box.covering(4, 0), 0);
        due(after + ", then next(2, 0, 1)", box.next(2, 0, 1), 1);
        due(after + ", then next(2, 0, 2)", box.next(2, 0, 2), NONE);
    }

    // The r of the corners are so far apart that each shows in the answers.
    private static void preparedText(String after, PieceBoxes box, int piece) {
        due(after + ", then add()", box.add(), piece);
        due(after + ", then area of it", box.area(piece), 2048);
        due(after + ", then its near at 0 0", box.near(piece, 0, 0), 5 + 200 + 10000);
        due(after + ", then its near at 1 0", box.near(piece, 1, 0), 1 + 600 + 10000);
        due(after + ", then its near at 0 2", box.near(piece, 0, 2), 1 + 200 + 50000);
        due(after + ", then its near at 0 3", box.near(piece, 0, 3), NONE);
    }

    private static void changesNothing(String call, int want, ToIntFunction<PieceBoxes> made) {
        PieceBoxes box = prepared();
        due(call, made.applyAsInt(box), want);
        preparedPieces(call, box);
        due(call + " again", made.applyAsInt(box), want);
        preparedText(call, box, 2);
    }

    // After pieces + 2 calls; at most 512 are asked of an object.
    private static PieceBoxes withHalves(int pieces) {
        PieceBoxes box = new PieceBoxes();
        box.corner(1, 64, 0, 1);
        box.corner(2, 64, 64, 1);
        for (int n = 0; n < pieces; n++) {
            due("add " + n, box.add(), n);
        }
        return box;
    }

    // ---- Terms ----

    // "each with X and Y, -4096 .. 4096, in 16ths of a pixel"
    private static void termsCorners() {
        int[] held = {-4096, -4095, 4095, 4096};
        int[] refused = {-4097, -4098, 4097, 4098, LOW, HIGH};
        for (int k = 0; k < 3; k++) {
            for (int place : held) {
                PieceBoxes box = new PieceBoxes();
                due("corner x " + place, number(box.corner(k, place, 0, 1)), TRUE);
                due("corner y " + place, number(box.corner(k, 0, place, 1)), TRUE);
                due("corner x y " + place, number(box.corner(k, place, place, 1)), TRUE);
                due("corner x -y " + place, number(box.corner(k, place, -place, 1)), TRUE);
            }
            for (int place : refused) {
                cornerIsRefused(k, place, 5, 9);
                cornerIsRefused(k, 5, place, 9);
                cornerIsRefused(k, place, place, 9);
            }
        }
        cornersLieAtTheLimits();
    }

    // A corner that is taken at a limit lies there, not just beside it.
    private static void cornersLieAtTheLimits() {
        PieceBoxes box = withPiece(-4096, -4096, 1, 4096, -4096, 1, 4096, 4096, 1);
        due("area of the grid's half", box.area(0), 8192 * 8192);
        text(box, 4096, 4096, 1, -4096, 4096, 1, -4096, -4096, 1);
        due("add of the other half", box.add(), 1);
        due("area of the other half", box.area(1), 8192 * 8192);
        text(box, -4096, 4096, 1, -4096, -4096, 1, 4096, -4096, 1);
        due("add of a third half", box.add(), 2);
        due("area of the third half", box.area(2), 8192 * 8192);
        text(box, -4095, -4095, 1, 4095, -4095, 1, 4095, 4095, 1);
        due("add of a lesser half", box.add(), 3);
        due("area of the lesser half", box.area(3), 8190 * 8190);
    }

    private static void cornerIsRefused(int k, int x, int y, int r) {
        changesNothing("corner(" + k + ", " + x + ", " + y + ", " + r + ")", FALSE,
                box -> number(box.corner(k, x, y, r)));
    }

    // "and r, 1 .. 1048576"
    private static void termsNearness() {
        int[] held = {1, 2, 1048575, 1048576};
        int[] refused = {0, -1, 1048577, 1048578, -1048576, LOW, HIGH};
        for (int r : held) {
            PieceBoxes box = withPiece(0, 0, r, 32, 0, r, 0, 32, r);
            due("near with r " + r, box.near(0, 0, 0), r);
        }
        for (int k = 0; k < 3; k++) {
            for (int r : refused) {
                cornerIsRefused(k, 5, 5, r);
                cornerIsRefused(k, 4097, 5, r);
            }
        }
    }

    // "AREA is (X1 - X0) * (Y2 - Y0) - (X2 - X0) * (Y1 - Y0), above 0."
    private static void termsArea() {
        areaDue(1, 0, 0, 1, 0, 0, 1);
        areaDue(2, 0, 0, 2, 0, 0, 1);
        areaDue(0, 0, 0, 0, 0, 0, 0);
        areaDue(0, 0, 0, 1, 0, 2, 0);
        areaDue(0, 0, 0, 0, 1, 0, 2);
        areaDue(0, 5, 7, 5, 7, 30, 1);
        areaDue(-1, 0, 0, 0, 1, 1, 0);
        areaDue(-2, 0, 0, 0, 1, 2, 0);
        // A slant over the whole grid, and the third corner just beside it.
        areaDue(8192, -4096, -4096, 4096, 4096, 0, 1);
        areaDue(0, -4096, -4096, 4096, 4096, 0, 0);
        areaDue(-8192, -4096, -4096, 4096, 4096, 0, -1);
        areaDue(1, -4096, -4096, 4096, 4095, -4095, -4095);
        areaDue(-1, -4096, -4096, 4096, 4095, 4095, 4094);
        areaDue(1, 4096, 4096, -4096, -4095, 4095, 4095);
        areaDue(8192 * 8192, -4096, -4096, 4096, -4096, 0, 4096);
        areaDue(-8192 * 8192, -4096, -4096, 0, 4096, 4096, -4096);
    }

    private static void areaDue(int area, int x0, int y0, int x1, int y1, int x2, int y2) {
        int[] x = {x0, x1, x2};
        int[] y = {y0, y1, y2};
        for (int turn = 0; turn < 3; turn++) {
            PieceBoxes box = new PieceBoxes();
            for (int k = 0; k < 3; k++) {
                box.corner(k, x[(turn + k) % 3], y[(turn + k) % 3], 1);
            }
            String what = "with AREA " + area + ", turned " + turn + ": ";
            due(what + "add()", box.add(), area > 0 ? 0 : NONE);
            due(what + "count()", box.count(), area > 0 ? 1 : 0);
            due(what + "area(0)", box.area(0), area > 0 ? area : NONE);
        }
    }

    // "A pixel i, j (columns and rows, any ints) has its middle at
    // x = 16 * i + 8, y = 16 * j + 8."
    private static void termsPixels() {
        // The grid's square in two pieces: of its pixels each is in just one.
        PieceBoxes square = withPiece(-4096, -4096, 2, 4096, -4096, 2, 4096, 4096, 2);
        text(square, -4096, -4096, 2, 4096, 4096, 2, -4096, 4096, 2);
        due("add of the square's other half", square.add(), 1);
        int[] inside = {-256, -255, -1, 0, 1, 254, 255};
        for (int i : inside) {
            for (int j : inside) {
                due("covering(" + i + ", " + j + ")", square.covering(i, j), 1);
            }
        }
        // In ints 16 times 2^28 is 0, and so is 16 times the least int.
        int[] outside = {-257, 256, 1 << 28, -(1 << 28), (1 << 28) + 3, 1 << 29, 1 << 30,
            LOW, LOW + 1, LOW + 255, HIGH, HIGH - 255};
        for (int away : outside) {
            farDue(square, away, 0);
            farDue(square, 0, away);
            farDue(square, away, away);
            farDue(square, away, -1 - away);
        }
        productsDoNotWrap();
        middleIsAtEight();
    }

    // Here 64 * 16 * 2^22 and its like are 0 in ints, though the middle is not.
    private static void productsDoNotWrap() {
        PieceBoxes box = withPiece(0, 0, 7, 64, 0, 7, 64, 64, 7);
        int[] steps = {1 << 22, -(1 << 22), 1 << 21, 1 << 23, 3 << 22, 1 << 27};
        for (int step : steps) {
            farDue(box, 2 + step, 1);
            farDue(box, 2, 1 + step);
            farDue(box, 2 + step, 1 + step);
        }
        due("near(0, 2, 1)", box.near(0, 2, 1), 7);
    }

    private static void farDue(PieceBoxes box, int i, int j) {
        String at = "(" + i + ", " + j + ")";
        due("covering" + at, box.covering(i, j), 0);
        due("nearest" + at, box.nearest(i, j), NONE);
        due("next from 0 at " + at, box.next(i, j, 0), NONE);
        due("near of 0 at " + at, box.near(0, i, j), NONE);
    }

    // The left and the upper bound of a piece at 7, 8 and 9 16ths.
    private static void middleIsAtEight() {
        for (int pixel = -2; pixel <= 2; pixel++) {
            for (int at = 7; at <= 9; at++) {
                int edge = 16 * pixel + at;
                PieceBoxes left = withPiece(edge, -64, 3, 128, 0, 3, edge, 64, 3);
                due("left bound at " + edge, left.covering(pixel, 0), at <= 8 ? 1 : 0);
                PieceBoxes upper = withPiece(-64, edge, 3, 64, edge, 3, 0, 128, 3);
                due("upper bound at " + edge, upper.covering(0, pixel), at <= 8 ? 1 : 0);
                PieceBoxes right = withPiece(edge, 64, 3, -128, 0, 3, edge, -64, 3);
                due("right bound at " + edge, right.covering(pixel, 0), at > 8 ? 1 : 0);
                PieceBoxes lower = withPiece(64, edge, 3, -64, edge, 3, 0, -128, 3);
                due("lower bound at " + edge, lower.covering(0, pixel), at > 8 ? 1 : 0);
            }
        }
    }

    // "It is COVERED by a piece if for each of the edges 1 2, 2 0, 0 1 E is
    // above 0, or 0 and Yb < Ya, or 0 and Yb = Ya and Xb > Xa."
    // In each piece only the edge from the first corner to the second is near
    // the middle of pixel 0 0, at 8 8.
    private static void termsEdges() {
        eAboveZero();
        eIsZero();
        middleAtACorner();
    }

    private static void eAboveZero() {
        coverDue("E 1, down to the right", true, 4, 5, 11, 10, -17, 43);
        coverDue("E -1, down to the right", false, 5, 6, 12, 11, -17, 43);
        coverDue("E 1, down to the left", true, 11, 4, 6, 11, -27, -17);
        coverDue("E -1, down to the left", false, 10, 5, 5, 12, -27, -17);
        coverDue("E 1, up to the left", true, 12, 11, 5, 6, 33, -27);
        coverDue("E -1, up to the left", false, 11, 10, 4, 5, 33, -27);
        coverDue("E 1, up to the right", true, 5, 12, 10, 5, 43, 33);
        coverDue("E -1, up to the right", false, 6, 11, 11, 4, 43, 33);
    }

    private static void eIsZero() {
        coverDue("E 0, to the right", true, 0, 8, 16, 8, 8, 40);
        coverDue("E 0, to the right, 2 up", true, 0, 9, 16, 7, 8, 40);
        coverDue("E 0, to the right, 2 down", false, 0, 7, 16, 9, 8, 40);
        coverDue("E 0, to the left", false, 16, 8, 0, 8, 8, -40);
        coverDue("E 0, to the left, 2 up", true, 16, 9, 0, 7, 8, -40);
        coverDue("E 0, to the left, 2 down", false, 16, 7, 0, 9, 8, -40);
        coverDue("E 0, up", true, 8, 16, 8, 0, 40, 8);
        coverDue("E 0, up, 2 to the right", true, 7, 16, 9, 0, 40, 8);
        coverDue("E 0, up, 2 to the left", true, 9, 16, 7, 0, 40, 8);
        coverDue("E 0, down", false, 8, 0, 8, 16, -40, 8);
        coverDue("E 0, down, 2 to the right", false, 7, 0, 9, 16, -40, 8);
        coverDue("E 0, down, 2 to the left", false, 9, 0, 7, 16, -40, 8);
        coverDue("E 0, down to the right", false, 1, 3, 15, 13, -17, 43);
        coverDue("E 0, down to the left", false, 13, 1, 3, 15, -27, -17);
        coverDue("E 0, up to the left", true, 15, 13, 1, 3, 33, -27);
        coverDue("E 0, up to the right", true, 3, 15, 13, 1, 43, 33);
        // The line goes through the middle, but the edge ends before it.
        coverDue("E 0 beyond the edge's end", false, -16, 8, 0, 8, -8, 40);
        coverDue("E 0 before the edge's start", false, 16, 8, 32, 8, 24, 40);
    }

    // With E 0 for two edges, both must take the middle.
    private static void middleAtACorner() {
        coverDue("corner, in by 1 up, out by 1 to the right", true, 8, 9, 8, 8, 9, 8);
        coverDue("corner, in by 1 to the right, out by 1 down", false, 7, 8, 8, 8, 8, 9);
        coverDue("corner, in by 1 down, out by 1 to the left", false, 8, 7, 8, 8, 7, 8);
        coverDue("corner, in by 1 to the left, out by 1 up", false, 9, 8, 8, 8, 8, 7);
        coverDue("corner, in up to the left, out to the right", true, 40, 9, 8, 8, 40, 8);
        coverDue("corner, in up, out 1 up", true, 8, 40, 8, 8, 40, 7);
        coverDue("corner, in up, out 1 down", false, 8, 40, 8, 8, 40, 9);
        coverDue("corner, in to the left, out 1 up to the right", false, 40, 8, 8, 8, 40, 7);
    }

    private static void coverDue(String what, boolean covered,
            int x0, int y0, int x1, int y1, int x2, int y2) {
        int[] x = {x0, x1, x2};
        int[] y = {y0, y1, y2};
        for (int turn = 0; turn < 3; turn++) {
            PieceBoxes box = new PieceBoxes();
            for (int k = 0; k < 3; k++) {
                box.corner(k, x[(turn + k) % 3], y[(turn + k) % 3], 3);
            }
            String which = what + ", turned " + turn + ": ";
            due(which + "add()", box.add(), 0);
            due(which + "near(0, 0, 0)", box.near(0, 0, 0), covered ? 3 : NONE);
            due(which + "nearest(0, 0)", box.nearest(0, 0), covered ? 0 : NONE);
            due(which + "covering(0, 0)", box.covering(0, 0), covered ? 1 : 0);
            due(which + "next(0, 0, 0)", box.next(0, 0, 0), covered ? 0 : NONE);
        }
    }

    // "DIV(a, b): the greatest whole number that is not above a / b."
    private static void termsDiv() {
        // w0, w1, w2 are 155, 215 and 1 of AREA 371: with r 100, 100 and
        // 100 + more the nearness is 100 + DIV(more, 371).
        int[] more = {-99, -1, 0, 1, 370, 371, 372, 741, 742, 743};
        int[] want = {99, 99, 100, 100, 100, 101, 101, 101, 102, 102};
        for (int n = 0; n < more.length; n++) {
            PieceBoxes box = withPiece(4, 5, 100, 11, 10, 100, -17, 43, 100 + more[n]);
            due("area(0)", box.area(0), 371);
            due("near with a 371st of " + more[n], box.near(0, 0, 0), want[n]);
        }
        divOfLongs();
    }

    // The sums go up to 2^46; in ints they would wrap.
    private static void divOfLongs() {
        int top = 1048576;
        PieceBoxes box = withPiece(-4096, -4096, top, 4096, -4096, top, 4096, 4096, top);
        due("greatest nearness", box.near(0, 0, 0), top);
        text(box, -4096, -4096, top, 4096, -4096, top, 4096, 4096, top - 1);
        due("add", box.add(), 1);
        due("just below the greatest", box.near(1, 255, -256), top - 1);
        due("at the far end too", box.near(1, 255, 255), top - 1);
        text(box, -4096, -4096, 1, 4096, -4096, 1, 4096, 4096, 2);
        due("add", box.add(), 2);
        due("just above the least", box.near(2, 255, -256), 1);
        due("just below 2", box.near(2, 255, 255), 1);
        text(box, -4096, -4096, 1, 4096, -4096, 1, 4096, 4096, top);
        due("add", box.add(), 3);
        due("1048575 / 1024 and 1", box.near(3, 255, -256), 1024);
        due("1048575 * 1023 / 1024 and 1", box.near(3, 255, 255), 1047552);
    }

    // ---- Promise 1 ----

    // "No pieces; the text's corners are 0 0 with r 1."
    private static void newObject() {
        nothingThere("new", new PieceBoxes());
        due("new: add()", new PieceBoxes().add(), NONE);
        int[] r = {1, 2};
        for (int k = 0; k < 3; k++) {
            for (int others : r) {
                PieceBoxes box = new PieceBoxes();
                box.corner((k + 1) % 3, 32, 0, others);
                due("two corners in one: add()", box.add(), NONE);
                box.corner((k + 2) % 3, 0, 32, others);
                due("corner " + k + " of a new object: add()", box.add(), 0);
                due("corner " + k + " of a new object: area(0)", box.area(0), 1024);
                // Halves of 1 and of the others' r, rounded down.
                due("corner " + k + " of a new object: near", box.near(0, 0, 0), 1);
                box.corner((k + 2) % 3, 64, 32, 1);
                due("corner " + k + " of a new object: second add()", box.add(), 1);
                due("corner " + k + " of a new object: area(1)", box.area(1), 1024);
            }
        }
    }

    private static void nothingThere(String when, PieceBoxes box) {
        int[] numbers = {LOW, -1, 0, 1, 510, 511, 512, HIGH};
        int[] pixels = {LOW, -1, 0, 1, HIGH};
        due(when + ": count()", box.count(), 0);
        for (int n : numbers) {
            due(when + ": area(" + n + ")", box.area(n), NONE);
            due(when + ": near(" + n + ", 0, 0)", box.near(n, 0, 0), NONE);
            due(when + ": next(0, 0, " + n + ")", box.next(0, 0, n), NONE);
        }
        for (int i : pixels) {
            due(when + ": nearest(" + i + ", 0)", box.nearest(i, 0), NONE);
            due(when + ": nearest(0, " + i + ")", box.nearest(0, i), NONE);
            due(when + ": covering(" + i + ", 0)", box.covering(i, 0), 0);
            due(when + ": covering(0, " + i + ")", box.covering(0, i), 0);
        }
    }

    // ---- Promise 2 ----

    // "Corner k of the text, 0 .. 2, is at x, y with r: true; false if there
    // is no such corner, or it can't be there."
    private static void corner() {
        int[] refused = {-1, -2, 3, 4, 511, 512, 1536, LOW, HIGH};
        for (int k : refused) {
            cornerIsRefused(k, 5, 5, 9);
            cornerIsRefused(k, 4097, 5, 9);
            cornerIsRefused(k, 5, 5, 0);
        }
        for (int k = 0; k < 3; k++) {
            cornerIsTaken(k);
        }
    }

    // Only corner k moves, the pieces stay, and a refused call between takes
    // neither the place nor the r back.
    private static void cornerIsTaken(int k) {
        PieceBoxes box = prepared();
        int[] x = {-32, 64, 0};
        int[] y = {0, 0, 128};
        int[] near = {(5 * 16 + 9 * 800 + 2 * 80000) / 16,
            (6 * 8 + 16 + 80000) / 8,
            (11 * 8 + 4 * 800 + 16) / 16};
        String call = "corner(" + k + ", " + x[k] + ", " + y[k] + ", 16)";
        due(call, number(box.corner(k, x[k], y[k], 16)), TRUE);
        due("refused after " + call, number(box.corner(k, x[k], -4097, 9)), FALSE);
        due("refused after " + call, number(box.corner(k, 1, 1, 0)), FALSE);
        preparedPieces(call, box);
        due(call + ", then add()", box.add(), 2);
        due(call + ", then area(2)", box.area(2), 4096);
        due(call + ", then near(2, 0, 0)", box.near(2, 0, 0), near[k]);
    }

    // ---- Promise 3 ----

    private static void add() {
        addKeepsTheText();
        addRefusesAreas();
        addOfTheLastCall();
    }

    // "The text's corners (which stay) are a piece: its number, from 0 on."
    private static void addKeepsTheText() {
        PieceBoxes box = prepared();
        for (int n = 2; n < 6; n++) {
            preparedText("add " + n, box, n);
        }
        due("count()", box.count(), 6);
        due("corner", number(box.corner(0, -32, 0, 9)), TRUE);
        due("a piece does not move with the text", box.area(5), 2048);
        due("nor does its nearness", box.near(5, 0, 0), 5 + 200 + 10000);
        due("add", box.add(), 6);
        due("area(6)", box.area(6), 4096);
        due("area(5) after it", box.area(5), 2048);
    }

    // "NONE if their AREA is not above 0": the text and the pieces stay.
    private static void addRefusesAreas() {
        addDue(0, 16, 31, 32);
        addDue(0, 16, 32, 0);
        addDue(0, 16, 33, -32);
        addDue(1, 1, 0, 64);
        addDue(1, 0, 0, 0);
        addDue(1, -1, 0, -64);
        addDue(2, 0, 1, 32);
        addDue(2, 0, 0, 0);
        addDue(2, 0, -1, -32);
    }

    // Corner k alone is moved and put back, so that each of the others must
    // have stayed through the add between.
    private static void addDue(int k, int x, int y, int area) {
        int[] homeX = {0, 32, 0};
        int[] homeY = {0, 0, 64};
        int[] homeR = {8, 800, 80000};
        PieceBoxes box = prepared();
        due("corner", number(box.corner(k, x, y, 5)), TRUE);
        String call = "add() with AREA " + area + " by corner " + k;
        if (area > 0) {
            due(call, box.add(), 2);
            due(call + ", then area(2)", box.area(2), area);
        } else {
            due(call, box.add(), NONE);
            due(call + " again", box.add(), NONE);
            preparedPieces(call, box);
        }
        due("corner", number(box.corner(k, homeX[k], homeY[k], homeR[k])), TRUE);
        preparedText(call, box, area > 0 ? 3 : 2);
    }

    // "or there are 512 pieces": as many as can stand within an object's 512
    // calls, 510. PieceBoxesLateCalls goes on to 512 of them.
    private static void addOfTheLastCall() {
        PieceBoxes box = withHalves(509);
        due("add() at call 512", box.add(), 509);
    }

    // ---- Promise 4 ----

    // "There are no pieces."
    private static void clear() {
        PieceBoxes box = new PieceBoxes();
        box.clear();
        nothingThere("clear of a new one", box);
        due("clear of a new one: add()", box.add(), NONE);

        box = prepared();
        box.clear();
        nothingThere("clear of two", box);
        box.clear();
        nothingThere("clear of none", box);
        preparedText("clear", box, 0);
        due("clear: the number 1 is not back", box.area(1), NONE);
        due("clear: nor does it cover", box.covering(0, 0), 1);
        due("clear: nor is it next", box.next(0, 0, 1), NONE);
        due("clear: nor is it nearest", box.nearest(2, 2), NONE);
        due("clear: the next number", box.add(), 1);

        box = withHalves(1);
        box.clear();
        nothingThere("clear of one", box);
        due("clear of one: add()", box.add(), 0);
    }

    // ---- Promise 5 ----

    // "How many pieces there are."
    private static void count() {
        PieceBoxes box = new PieceBoxes();
        due("count of none", box.count(), 0);
        textOfHalf(box, 2, 1);
        due("count with a text alone", box.count(), 0);
        for (int n = 1; n <= 100; n++) {
            box.add();
            due("count of " + n, box.count(), n);
        }
        box.clear();
        due("count of a cleared one", box.count(), 0);
        box.add();
        due("count of one after clear", box.count(), 1);
        due("count of 509", withHalves(509).count(), 509);
        changesNothing("count()", 2, PieceBoxes::count);
    }

    // ---- Promise 6 ----

    // "AREA of a piece; NONE if there is none such."
    private static void area() {
        int[] none = {-1, -2, 2, 3, 511, 512, 513, LOW, HIGH};
        for (int piece : none) {
            changesNothing("area(" + piece + ")", NONE, box -> box.area(piece));
        }
        changesNothing("area(0)", 4096, box -> box.area(0));
        changesNothing("area(1)", 2304, box -> box.area(1));
        PieceBoxes box = withHalves(508);
        due("area(507) of 508", box.area(507), 4096);
        due("area(508) of 508", box.area(508), NONE);
    }

    // ---- Promise 7 ----

    // "NEARNESS of a piece at a pixel; NONE if it does not cover it, or there
    // is no such piece."
    private static void near() {
        int[] none = {-1, -2, 2, 3, 511, 512, 513, LOW, HIGH};
        for (int piece : none) {
            changesNothing("near(" + piece + ", 0, 0)", NONE, box -> box.near(piece, 0, 0));
        }
        nearDue(3, 0, 10);
        nearDue(4, 0, NONE);
        nearDue(0, 0, 10);
        nearDue(-1, 0, NONE);
        nearDue(0, -1, NONE);
        nearDue(3, 3, 10);
        nearDue(3, 4, NONE);
        nearDue(2, 3, NONE);
        nearDue(LOW, LOW, NONE);
        nearDue(HIGH, HIGH, NONE);
        PieceBoxes box = withHalves(508);
        due("near(507, 0, 0) of 508", box.near(507, 0, 0), 1);
        due("near(508, 0, 0) of 508", box.near(508, 0, 0), NONE);
    }

    private static void nearDue(int i, int j, int want) {
        changesNothing("near(0, " + i + ", " + j + ")", want, box -> box.near(0, i, j));
    }

    // ---- Promise 8 ----

    private static void nearest() {
        nearestOfNone();
        nearestByOne();
        nearestAtATie();
    }

    // "NONE if none covers it"
    private static void nearestOfNone() {
        changesNothing("nearest(3, 0)", 0, box -> box.nearest(3, 0));
        changesNothing("nearest(4, 0)", NONE, box -> box.nearest(4, 0));
        changesNothing("nearest(-1, 0)", NONE, box -> box.nearest(-1, 0));
        changesNothing("nearest(0, 1)", NONE, box -> box.nearest(0, 1));
        changesNothing("nearest(LOW, HIGH)", NONE, box -> box.nearest(LOW, HIGH));
        due("nearest with the least nearness", withHalves(1).nearest(0, 0), 0);
    }

    // "The piece that covers a pixel with the greatest nearness": a step of 1
    // is enough, before it and behind it, at both ends of r.
    private static void nearestByOne() {
        int[] r = {1, 2, 1000, 1048575};
        for (int least : r) {
            PieceBoxes box = new PieceBoxes();
            addHalf(box, 4, least);
            addHalf(box, 3, least + 1);
            addHalf(box, 4, least);
            due("nearest(2, 0), r " + least, box.nearest(2, 0), 1);
            due("nearest(3, 0), where 1 does not cover", box.nearest(3, 0), 0);
            box.clear();
            addHalf(box, 3, least + 1);
            addHalf(box, 4, least);
            due("nearest(2, 0), the greater first, r " + least, box.nearest(2, 0), 0);
            due("nearest(3, 0), where 0 does not cover", box.nearest(3, 0), 1);
        }
    }

    // "the one with the least number at a tie"
    private static void nearestAtATie() {
        PieceBoxes box = new PieceBoxes();
        addHalf(box, 4, 20);
        addHalf(box, 2, 30);
        addHalf(box, 3, 30);
        addHalf(box, 4, 30);
        due("a tie of 1, 2 and 3", box.nearest(1, 0), 1);
        due("a tie of 2 and 3", box.nearest(2, 0), 2);
        due("no tie", box.nearest(3, 0), 3);
        addHalf(box, 1, 31);
        due("above the tie by 1", box.nearest(0, 0), 4);
        due("the tie beside it", box.nearest(1, 1), 1);
        due("a tie of 509", withHalves(509).nearest(0, 0), 0);

        // At pixel 0 0: 100, 100 and 370 371sts, 100, 101, 101 and a 371st.
        int[] more = {0, 370, 0, 371, 372};
        int[] want = {0, 0, 0, 3, 3};
        PieceBoxes rounded = new PieceBoxes();
        for (int n = 0; n < more.length; n++) {
            text(rounded, 4, 5, 100, 11, 10, 100, -17, 43, 100 + more[n]);
            due("add", rounded.add(), n);
            due("a tie of what is rounded down, " + n, rounded.nearest(0, 0), want[n]);
        }
    }

    // ---- Promise 9 ----

    // "How many pieces cover a pixel."
    private static void covering() {
        changesNothing("covering(2, 0)", 2, box -> box.covering(2, 0));
        changesNothing("covering(3, 0)", 1, box -> box.covering(3, 0));
        changesNothing("covering(4, 0)", 0, box -> box.covering(4, 0));
        changesNothing("covering(-1, 0)", 0, box -> box.covering(-1, 0));
        changesNothing("covering(LOW, LOW)", 0, box -> box.covering(LOW, LOW));
        changesNothing("covering(HIGH, HIGH)", 0, box -> box.covering(HIGH, HIGH));
        due("covering by 509", withHalves(509).covering(0, 0), 509);
        due("covering by none of 509", withHalves(509).covering(0, 1), 0);
    }

    // ---- Promise 10 ----

    // "The least number, from one on, of a piece that covers a pixel; NONE if
    // there is none."
    private static void next() {
        int[] from = {LOW, -512, -1, 0, 1, 2, 3, 511, 512, 513, HIGH};
        int[] atBoth = {0, 0, 0, 0, 1, NONE, NONE, NONE, NONE, NONE, NONE};
        int[] atFirst = {0, 0, 0, 0, NONE, NONE, NONE, NONE, NONE, NONE, NONE};
        for (int n = 0; n < from.length; n++) {
            int start = from[n];
            changesNothing("next(2, 0, " + start + ")", atBoth[n], box -> box.next(2, 0, start));
            changesNothing("next(3, 0, " + start + ")", atFirst[n], box -> box.next(3, 0, start));
            changesNothing("next(4, 0, " + start + ")", NONE, box -> box.next(4, 0, start));
        }
        nextPassesOver();
        nextOfTheLast();
    }

    // Pieces that do not cover the pixel lie before, between and behind.
    private static void nextPassesOver() {
        PieceBoxes box = new PieceBoxes();
        int[] pixels = {1, 2, 1, 1, 2, 2, 1};
        int[] want = {1, 1, 4, 4, 4, 5, NONE, NONE, NONE};
        for (int size : pixels) {
            addHalf(box, size, 1);
        }
        for (int start = 0; start < want.length; start++) {
            due("next(1, 0, " + start + ")", box.next(1, 0, start), want[start]);
            due("next(0, 0, " + start + ")", box.next(0, 0, start), start < 7 ? start : NONE);
        }
    }

    private static void nextOfTheLast() {
        PieceBoxes last = withHalves(508);
        due("next(0, 0, 507) of 508", last.next(0, 0, 507), 507);
        due("next(0, 0, 508) of 508", last.next(0, 0, 508), NONE);
        due("next(0, 1, 0) of 508", withHalves(508).next(0, 1, 0), NONE);
    }
}
