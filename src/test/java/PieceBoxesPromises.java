// Each promise of the document by hand-made calls: ordinary inputs, the edges
// that the document names, and wrong inputs.
public final class PieceBoxesPromises {
    private static final int LOW = Integer.MIN_VALUE;
    private static final int HIGH = Integer.MAX_VALUE;
    private static final int NONE = -1;

    private static int wrong = 0;

    public static void main(String[] args) {
        constants();
        newObject();
        cornerTakesItsLimits();
        cornerRefusesAndChangesNothing();
        addNumbersPieces();
        addRefusesFlatAndTurned();
        addKeepsTextAndPieceApart();
        addUpToTheLastCall();
        clearLeavesTheText();
        countFollows();
        areaOfPieces();
        nearOfPieces();
        nearRoundsDown();
        nearWeighsEachCorner();
        nearAtTheGreatest();
        edgesOwnTheirMiddles();
        pixelsFarAway();
        nearestOfPieces();
        coveringOfPieces();
        nextOfPieces();
        objectsAreApart();
        System.out.println(wrong == 0
                ? "all answers are as due" : wrong + " answers are not as due");
        if (wrong != 0) {
            System.exit(1);
        }
    }

    private static void due(String call, long got, long want) {
        if (got != want) {
            wrong++;
            System.out.println(call + " answered " + got + ", due is " + want);
        }
    }

    private static void due(String call, boolean got, boolean want) {
        due(call, got ? 1 : 0, want ? 1 : 0);
    }

    // Nine numbers: x, y, r of the corners 0, 1 and 2.
    private static int addPiece(PieceBoxes box, int... c) {
        for (int k = 0; k < 3; k++) {
            due("corner " + k + " of a piece",
                    box.corner(k, c[3 * k], c[3 * k + 1], c[3 * k + 2]), true);
        }
        return box.add();
    }

    // Covers the pixels i, j with 0 <= j <= i < pixels, its slant's among them.
    private static int addRightHalf(PieceBoxes box, int pixels, int r) {
        int far = 16 * pixels;
        return addPiece(box, 0, 0, r, far, 0, r, far, far, r);
    }

    private static void constants() {
        due("NONE", PieceBoxes.NONE, -1);
    }

    private static void newObject() {
        PieceBoxes box = new PieceBoxes();
        due("new: count", box.count(), 0);
        due("new: area(0)", box.area(0), NONE);
        due("new: near(0, 0, 0)", box.near(0, 0, 0), NONE);
        due("new: nearest(0, 0)", box.nearest(0, 0), NONE);
        due("new: covering(0, 0)", box.covering(0, 0), 0);
        due("new: next(0, 0, 0)", box.next(0, 0, 0), NONE);
        due("new: add", box.add(), NONE);

        for (int left = 0; left < 3; left++) {
            textStartsAtZero(left);
        }
    }

    // The corner left alone has half of the shares at pixel 0 0, the moved
    // ones a quarter each: its r, were it another than 1, would show in one of
    // the two nearnesses, and its place in one of the two areas.
    private static void textStartsAtZero(int left) {
        PieceBoxes box = new PieceBoxes();
        int second = (left + 1) % 3;
        int third = (left + 2) % 3;
        String what = "corner " + left + " left alone: ";
        box.corner(second, 32, 0, 1);
        box.corner(third, 0, 32, 1);
        due(what + "add", box.add(), 0);
        due(what + "area(0)", box.area(0), 1024);
        due(what + "near(0, 0, 0)", box.near(0, 0, 0), 1);
        box.corner(second, 32, 0, 2);
        box.corner(third, 0, 32, 2);
        due(what + "add again", box.add(), 1);
        due(what + "near(1, 0, 0)", box.near(1, 0, 0), 1);
        box.corner(third, 64, 32, 2);
        due(what + "add a third", box.add(), 2);
        due(what + "area(2)", box.area(2), 1024);
    }

    private static void cornerTakesItsLimits() {
        PieceBoxes box = new PieceBoxes();
        for (int k = 0; k < 3; k++) {
            due("corner low", box.corner(k, -4096, -4096, 1), true);
            due("corner high", box.corner(k, 4096, 4096, 1048576), true);
            due("corner in the midst", box.corner(k, 17, -5, 300), true);
        }
        due("corners do not make pieces", box.count(), 0);
    }

    private static void cornerRefusesAndChangesNothing() {
        PieceBoxes box = new PieceBoxes();
        box.corner(0, 0, 0, 7);
        box.corner(1, 32, 0, 7);
        box.corner(2, 32, 32, 7);
        int[] noCorner = {-1, 3, 4, LOW, HIGH};
        for (int k : noCorner) {
            due("corner k " + k, box.corner(k, 1, 1, 9), false);
        }
        int[] offGrid = {-4097, 4097, LOW, HIGH};
        int[] noR = {0, -1, 1048577, LOW, HIGH};
        for (int k = 0; k < 3; k++) {
            for (int place : offGrid) {
                due("corner x " + place, box.corner(k, place, 5, 9), false);
                due("corner y " + place, box.corner(k, 5, place, 9), false);
            }
            for (int r : noR) {
                due("corner r " + r, box.corner(k, 5, 5, r), false);
            }
        }
        due("refused corners: add", box.add(), 0);
        due("refused corners: area", box.area(0), 1024);
        due("refused corners: near(0, 0, 0)", box.near(0, 0, 0), 7);
        due("refused corners: near(0, 1, 0)", box.near(0, 1, 0), 7);
        due("refused corners: near(0, 1, 1)", box.near(0, 1, 1), 7);
    }

    private static void addNumbersPieces() {
        PieceBoxes box = new PieceBoxes();
        due("first piece", addRightHalf(box, 1, 5), 0);
        due("second piece", addRightHalf(box, 2, 6), 1);
        due("the same text again", box.add(), 2);
        due("and again", box.add(), 3);
        due("count", box.count(), 4);
        due("area(0)", box.area(0), 256);
        due("area(1)", box.area(1), 1024);
        due("area(3)", box.area(3), 1024);
        due("near(0, 0, 0)", box.near(0, 0, 0), 5);
        due("near(3, 0, 0)", box.near(3, 0, 0), 6);
    }

    private static void addRefusesFlatAndTurned() {
        PieceBoxes box = new PieceBoxes();
        due("turned", addPiece(box, 0, 0, 1, 32, 32, 1, 32, 0, 1), NONE);
        due("on a line", addPiece(box, 0, 0, 1, 16, 16, 1, 32, 32, 1), NONE);
        due("two corners in one", addPiece(box, 3, 4, 1, 3, 4, 1, 32, 0, 1), NONE);
        due("turned by 1", addPiece(box, 0, 0, 1, 0, 1, 1, 1, 0, 1), NONE);
        due("none was added", box.count(), 0);
        due("AREA 1", addPiece(box, 0, 0, 1, 1, 0, 1, 0, 1, 1), 0);
        due("area of AREA 1", box.area(0), 1);
        due("thin and long", addPiece(box,
                -4096, -4096, 1, 4096, 4095, 1, 4095, 4095, 1), 1);
        due("area of thin and long", box.area(1), 8191);
        due("greatest, turned", addPiece(box,
                -4096, -4096, 1, 4096, 4096, 1, 4096, -4096, 1), NONE);
        due("count", box.count(), 2);
    }

    private static void addKeepsTextAndPieceApart() {
        PieceBoxes box = new PieceBoxes();
        addRightHalf(box, 2, 10);
        box.corner(1, 64, 0, 20);
        due("a piece stays as it was added", box.area(0), 1024);
        due("its r too", box.near(0, 1, 0), 10);
        due("the other corners stayed", box.add(), 1);
        due("area of the later", box.area(1), 2048);
        due("refused add", addPiece(box, 0, 0, 4, 0, 0, 4, 32, 32, 4), NONE);
        box.corner(1, 32, 0, 4);
        due("the text stays at a refused add", box.add(), 2);
        due("area after it", box.area(2), 1024);
    }

    private static void addUpToTheLastCall() {
        PieceBoxes box = new PieceBoxes();
        box.corner(1, 32, 0, 1);
        box.corner(2, 32, 32, 1);
        for (int call = 3; call <= 512; call++) {
            due("add at call " + call, box.add(), call - 3);
        }
    }

    private static void clearLeavesTheText() {
        PieceBoxes box = new PieceBoxes();
        box.clear();
        due("clear of a new one", box.count(), 0);
        addRightHalf(box, 2, 10);
        box.add();
        box.clear();
        due("cleared: count", box.count(), 0);
        due("cleared: area(0)", box.area(0), NONE);
        due("cleared: near", box.near(0, 0, 0), NONE);
        due("cleared: nearest", box.nearest(0, 0), NONE);
        due("cleared: covering", box.covering(0, 0), 0);
        due("cleared: next", box.next(0, 0, 0), NONE);
        due("the text is left, numbers start at 0", box.add(), 0);
        due("cleared and added: count", box.count(), 1);
        due("cleared and added: area", box.area(0), 1024);
        due("cleared and added: area(1)", box.area(1), NONE);
        due("cleared and added: near", box.near(0, 1, 0), 10);
        due("cleared and added: covering", box.covering(1, 0), 1);
    }

    private static void countFollows() {
        PieceBoxes box = new PieceBoxes();
        for (int n = 1; n <= 20; n++) {
            addRightHalf(box, n, n);
            due("count after " + n, box.count(), n);
        }
        addPiece(box, 0, 0, 1, 0, 0, 1, 0, 0, 1);
        due("count after a refused add", box.count(), 20);
    }

    private static void areaOfPieces() {
        PieceBoxes box = new PieceBoxes();
        addPiece(box, 5, 7, 1, 41, 3, 2, 18, 60, 3);
        due("area(0)", box.area(0), 36 * 53 - 13 * -4);
        addPiece(box, -4096, -4096, 1, 4096, -4096, 1, -4096, 4096, 1);
        due("the greatest area", box.area(1), 67108864);
        int[] noPiece = {-1, 2, 511, 512, 513, LOW, HIGH};
        for (int piece : noPiece) {
            due("area(" + piece + ")", box.area(piece), NONE);
        }
    }

    private static void nearOfPieces() {
        PieceBoxes box = new PieceBoxes();
        addRightHalf(box, 4, 9);
        due("inside", box.near(0, 2, 1), 9);
        due("below the slant", box.near(0, 1, 2), NONE);
        due("left", box.near(0, -1, 0), NONE);
        due("right", box.near(0, 4, 0), NONE);
        due("above", box.near(0, 1, -1), NONE);
        due("below", box.near(0, 3, 4), NONE);
        int[] noPiece = {-1, 1, 511, 512, 513, LOW, HIGH};
        for (int piece : noPiece) {
            due("near(" + piece + ", 2, 1)", box.near(piece, 2, 1), NONE);
        }
    }

    private static void nearRoundsDown() {
        PieceBoxes box = new PieceBoxes();
        // The middle 8 8 has w1 = 8 * 32 and w2 = 8 * 32 of AREA 1024.
        addPiece(box, 0, 0, 1, 32, 0, 1, 0, 32, 4);
        due("1 and 3 quarters", box.near(0, 0, 0), 1);
        addPiece(box, 0, 0, 1, 32, 0, 1, 0, 32, 5);
        due("2 just", box.near(1, 0, 0), 2);
        addPiece(box, 0, 0, 1, 32, 0, 1, 0, 32, 8);
        due("2 and 3 quarters", box.near(2, 0, 0), 2);
    }

    private static void nearWeighsEachCorner() {
        PieceBoxes box = new PieceBoxes();
        // At pixel 0 0 the shares are 5, 2 and 1 eighths.
        addPiece(box, 0, 0, 8, 32, 0, 800, 0, 64, 80000);
        due("shares of the corners", box.near(0, 0, 0), 5 + 200 + 10000);
        addPiece(box, 32, 0, 800, 0, 64, 80000, 0, 0, 8);
        due("shares, turned once", box.near(1, 0, 0), 5 + 200 + 10000);
        addPiece(box, 0, 64, 80000, 0, 0, 8, 32, 0, 800);
        due("shares, turned twice", box.near(2, 0, 0), 5 + 200 + 10000);
    }

    private static void nearAtTheGreatest() {
        PieceBoxes box = new PieceBoxes();
        int r = 1048576;
        addPiece(box, -4096, -4096, r, 4096, -4096, r, 4096, 4096, r);
        due("greatest nearness", box.near(0, 0, 0), r);
        due("at its corner", box.near(0, 255, -256), r);
        due("greatest nearest", box.nearest(255, 255), 0);
    }

    // Each piece has the middle of pixel 0 0 (at 8 8) on its edge 0 1.
    private static void edgesOwnTheirMiddles() {
        edgeDue("to the right", true, 0, 8, 16, 8, 8, 24);
        edgeDue("to the left", false, 16, 8, 0, 8, 8, -8);
        edgeDue("up", true, 8, 16, 8, 0, 24, 8);
        edgeDue("down", false, 8, 0, 8, 16, -8, 8);
        edgeDue("up to the right", true, 0, 16, 16, 0, 16, 16);
        edgeDue("up to the left", true, 16, 16, 0, 0, 16, 0);
        edgeDue("down to the right", false, 0, 0, 16, 16, 0, 16);
        edgeDue("down to the left", false, 16, 0, 0, 16, 0, 0);
        // A corner lies on two edges, and both must own it.
        edgeDue("corner of an up and a right edge", true, 8, 24, 8, 8, 24, 8);
        edgeDue("corner of a right and a down edge", false, -8, 8, 8, 8, 8, 24);
        edgeDue("corner of a left and an up edge", false, 8, 8, 8, -8, 24, 8);
    }

    private static void edgeDue(String what, boolean covered,
            int x0, int y0, int x1, int y1, int x2, int y2) {
        int[] x = {x0, x1, x2};
        int[] y = {y0, y1, y2};
        for (int turn = 0; turn < 3; turn++) {
            int a = turn;
            int b = (turn + 1) % 3;
            int c = (turn + 2) % 3;
            PieceBoxes box = new PieceBoxes();
            due("edge " + what + ": add", addPiece(box,
                    x[a], y[a], 3, x[b], y[b], 3, x[c], y[c], 3), 0);
            due("edge " + what + ": near", box.near(0, 0, 0), covered ? 3 : NONE);
            due("edge " + what + ": nearest", box.nearest(0, 0), covered ? 0 : NONE);
            due("edge " + what + ": covering", box.covering(0, 0), covered ? 1 : 0);
            due("edge " + what + ": next", box.next(0, 0, 0), covered ? 0 : NONE);
        }
    }

    // 16 * 2^28 and its like are 0 in ints: those pixels must not be taken
    // for the ones in the midst.
    private static void pixelsFarAway() {
        PieceBoxes box = new PieceBoxes();
        addPiece(box, -4096, -4096, 2, 4096, -4096, 2, 4096, 4096, 2);
        addPiece(box, -4096, -4096, 2, 4096, 4096, 2, -4096, 4096, 2);
        due("in the midst", box.covering(0, 0), 1);
        int[] far = {LOW, LOW + 1, HIGH, HIGH - 1, 1 << 28, -(1 << 28), 1 << 29, 1 << 30,
                (1 << 28) + 5, 256, -257};
        for (int away : far) {
            farDue(box, away, 0);
            farDue(box, 0, away);
            farDue(box, away, away);
            farDue(box, away, ~away);
        }
    }

    private static void farDue(PieceBoxes box, int x, int y) {
        due("far covering " + x + " " + y, box.covering(x, y), 0);
        due("far nearest " + x + " " + y, box.nearest(x, y), NONE);
        due("far next " + x + " " + y, box.next(x, y, 0), NONE);
        due("far near(0) " + x + " " + y, box.near(0, x, y), NONE);
        due("far near(1) " + x + " " + y, box.near(1, x, y), NONE);
    }

    private static void nearestOfPieces() {
        PieceBoxes box = new PieceBoxes();
        addRightHalf(box, 4, 10);
        addRightHalf(box, 3, 30);
        addRightHalf(box, 2, 20);
        addRightHalf(box, 3, 30);
        addRightHalf(box, 1, 31);
        due("nearest(0, 0)", box.nearest(0, 0), 4);
        due("nearest(1, 0), a tie of 1 and 3", box.nearest(1, 0), 1);
        due("nearest(2, 0)", box.nearest(2, 0), 1);
        due("nearest(3, 0)", box.nearest(3, 0), 0);
        due("nearest(4, 0)", box.nearest(4, 0), NONE);
        due("nearest(0, 1)", box.nearest(0, 1), NONE);

        // A tie after rounding down is a tie.
        PieceBoxes tied = new PieceBoxes();
        addPiece(tied, 0, 0, 1, 32, 0, 1, 0, 32, 4);
        addPiece(tied, 0, 0, 1, 32, 0, 1, 0, 32, 3);
        addPiece(tied, 0, 0, 1, 32, 0, 2, 0, 32, 4);
        due("a tie of the rounded", tied.nearest(0, 0), 2);
        tied.clear();
        addPiece(tied, 0, 0, 1, 32, 0, 1, 0, 32, 3);
        addPiece(tied, 0, 0, 1, 32, 0, 1, 0, 32, 4);
        due("the least of the rounded", tied.nearest(0, 0), 0);
    }

    private static void coveringOfPieces() {
        PieceBoxes box = new PieceBoxes();
        for (int pixels = 1; pixels <= 5; pixels++) {
            addRightHalf(box, pixels, pixels);
        }
        for (int i = 0; i < 7; i++) {
            due("covering(" + i + ", 0)", box.covering(i, 0), Math.max(5 - i, 0));
            due("covering(-1, " + i + ")", box.covering(-1, i), 0);
        }
        // Both halves of a square: each pixel is covered once.
        PieceBoxes square = new PieceBoxes();
        addPiece(square, 0, 0, 1, 64, 0, 1, 64, 64, 1);
        addPiece(square, 0, 0, 1, 64, 64, 1, 0, 64, 1);
        for (int i = 0; i < 4; i++) {
            for (int j = 0; j < 4; j++) {
                due("square " + i + " " + j, square.covering(i, j), 1);
            }
        }
    }

    private static void nextOfPieces() {
        PieceBoxes box = new PieceBoxes();
        addRightHalf(box, 1, 1);
        addRightHalf(box, 2, 1);
        addRightHalf(box, 1, 1);
        addRightHalf(box, 2, 1);
        int[] want = {1, 1, 3, 3, NONE, NONE};
        for (int from = 0; from < want.length; from++) {
            due("next(1, 0, " + from + ")", box.next(1, 0, from), want[from]);
        }
        due("next(1, 0, -1)", box.next(1, 0, -1), 1);
        due("next(1, 0, LOW)", box.next(1, 0, LOW), 1);
        due("next(1, 0, HIGH)", box.next(1, 0, HIGH), NONE);
        due("next(1, 0, 512)", box.next(1, 0, 512), NONE);
        due("next(1, 0, 513)", box.next(1, 0, 513), NONE);
        due("next(0, 0, 0)", box.next(0, 0, 0), 0);
        due("next(0, 1, 0)", box.next(0, 1, 0), NONE);
        due("next(5, 5, 0)", box.next(5, 5, 0), NONE);
    }

    private static void objectsAreApart() {
        PieceBoxes one = new PieceBoxes();
        PieceBoxes other = new PieceBoxes();
        addRightHalf(one, 2, 1);
        due("the other has none", other.count(), 0);
        due("nor a text", other.add(), NONE);
        other.clear();
        due("the one keeps its piece", one.count(), 1);
    }
}
