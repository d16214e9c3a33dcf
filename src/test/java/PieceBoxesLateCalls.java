import java.util.Random;
import java.util.function.Supplier;

// Calls after an object's 512th. What they answer is free by the document, and
// the other tests ask for none of it; but no call may ever throw (LANGUAGE.md,
// rule 7), and this class keeps the limit of promise 3, "or there are 512
// pieces", which an object can't meet any sooner: two corners must be set
// first, so that 510 pieces are the most within 512 calls.
public final class PieceBoxesLateCalls {
    private static final int NONE = -1;
    private static final int CALLS = 4096;
    private static final int[] STRANGE = {Integer.MIN_VALUE, Integer.MIN_VALUE + 1, -4097, -4096,
        -513, -512, -1, 0, 1, 2, 3, 8, 510, 511, 512, 513, 1535, 1536, 1539, 4096, 4097,
        1048576, 1048577, 1 << 28, Integer.MAX_VALUE - 1, Integer.MAX_VALUE};

    private static int wrong = 0;

    public static void main(String[] args) {
        limitOf512Pieces();
        clearOf512Pieces();
        for (int seed = 1; seed <= 40; seed++) {
            noCallThrows(seed);
        }
        System.out.println(wrong == 0
                ? "all answers are as due" : wrong + " answers are not as due");
        if (wrong != 0) {
            System.exit(1);
        }
    }

    private static void due(String call, long got, long want) {
        if (got != want) {
            wrong++;
            System.out.println(call + " answered " + got + ", due is " + want);
        }
    }

    // Covers the pixels i, j with 0 <= j <= i < pixels.
    private static void textOfHalf(PieceBoxes box, int pixels, int r) {
        box.corner(0, 0, 0, r);
        box.corner(1, 16 * pixels, 0, r);
        box.corner(2, 16 * pixels, 16 * pixels, r);
    }

    // The last piece is another one than the 511 before it.
    private static PieceBoxes full() {
        PieceBoxes box = new PieceBoxes();
        textOfHalf(box, 4, 1);
        for (int n = 0; n < 511; n++) {
            due("add() with " + n + " pieces", box.add(), n);
        }
        due("count()", box.count(), 511);
        due("area(511)", box.area(511), NONE);
        textOfHalf(box, 3, 30);
        due("add() with 511 pieces", box.add(), 511);
        return box;
    }

    // Asked again after each refused add: it has left the pieces as they were.
    private static void limitOf512Pieces() {
        PieceBoxes box = full();
        textOfHalf(box, 2, 70);
        for (int n = 0; n < 3; n++) {
            due("add() with 512 pieces", box.add(), NONE);
            due("count()", box.count(), 512);
            due("area(0)", box.area(0), 4096);
            due("area(510)", box.area(510), 4096);
            due("area(511)", box.area(511), 2304);
            due("area(512)", box.area(512), NONE);
            due("near(511, 2, 0)", box.near(511, 2, 0), 30);
            due("near(512, 0, 0)", box.near(512, 0, 0), NONE);
            due("nearest(2, 0)", box.nearest(2, 0), 511);
            due("nearest(3, 0)", box.nearest(3, 0), 0);
            due("nearest(0, 2)", box.nearest(0, 2), NONE);
            due("covering(2, 0)", box.covering(2, 0), 512);
            due("covering(3, 0)", box.covering(3, 0), 511);
            due("covering(0, 2)", box.covering(0, 2), 0);
            due("next(2, 0, 511)", box.next(2, 0, 511), 511);
            due("next(2, 0, 512)", box.next(2, 0, 512), NONE);
            due("next(3, 0, 511)", box.next(3, 0, 511), NONE);
        }
    }

    // The text is the one that was refused as a 513th piece.
    private static void clearOf512Pieces() {
        PieceBoxes box = full();
        textOfHalf(box, 2, 70);
        due("add() with 512 pieces", box.add(), NONE);
        box.clear();
        due("cleared: count()", box.count(), 0);
        due("cleared: covering(0, 0)", box.covering(0, 0), 0);
        due("cleared: add()", box.add(), 0);
        due("cleared: area(0)", box.area(0), 1024);
        due("cleared: near(0, 1, 0)", box.near(0, 1, 0), 70);
        due("cleared: area(1)", box.area(1), NONE);
    }

    // Begins with a full box, so that each row is used up to its end.
    private static void noCallThrows(int seed) {
        Random draw = new Random(seed);
        PieceBoxes box = full();
        for (int n = 0; n < CALLS; n++) {
            int a = strange(draw);
            int b = strange(draw);
            int c = strange(draw);
            int d = strange(draw);
            int kind = draw.nextInt(40);
            String call = "call kind " + kind + " with " + a + ", " + b + ", " + c + ", " + d;
            mustNotThrow(call, () -> late(box, kind, a, b, c, d));
        }
    }

    private static int strange(Random draw) {
        return draw.nextInt(8) == 0 ? draw.nextInt() : STRANGE[draw.nextInt(STRANGE.length)];
    }

    private static Object late(PieceBoxes box, int kind, int a, int b, int c, int d) {
        switch (kind) {
            case 0:
                box.clear();
                return null;
            case 1: case 2: case 3: case 4:
                return box.corner(a, b, c, d);
            case 5:
                return box.count();
            case 6: case 7: case 8:
                return box.area(a);
            case 9: case 10: case 11:
                return box.near(a, b, c);
            case 12: case 13: case 14:
                return box.nearest(a, b);
            case 15: case 16: case 17:
                return box.covering(a, b);
            case 18: case 19: case 20:
                return box.next(a, b, c);
            default:
                return box.add();
        }
    }

    private static void mustNotThrow(String call, Supplier<Object> made) {
        try {
            made.get();
        } catch (RuntimeException e) {
            wrong++;
            System.out.println(call + " threw " + e);
        }
    }
}
