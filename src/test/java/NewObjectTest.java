/** Promise 1: how many digits, points and plan numbers an object keeps, and that it is empty at first. */
final class NewObjectTest {
    public static void main(String[] args) {
        isEmptyAtFirst();
        keepsTheLowestTwoBitsOfDigits();
        keepsPointsWithinLimits();
        keepsPlanWithinLimits();
        keepsPlanWithinLimitsInFewCalls();
        keepsTheLeastOfBoth();
        Check.due("NONE", WordShapes.NONE, -1);
        Check.finish();
    }

    private static void isEmptyAtFirst() {
        WordShapes x = new WordShapes(0, 10, 10);
        for (int slot = 0; slot < 4; slot++) {
            for (int what = 0; what < 4; what++) {
                Check.due("count at first", x.count(slot, what), 0);
            }
            Check.due("same at first", x.same(0, slot) ? 1 : 0, 1);
        }
        Check.due("fault(0) at first", x.fault(0), 0);
        Check.due("fault(1) at first", x.fault(1), 0);
    }

    private static void keepsTheLowestTwoBitsOfDigits() {
        int[] given = {0, 1, 2, 3, 4, 7, -1, -4, Integer.MIN_VALUE, Integer.MAX_VALUE};
        int[] units = {1, 10, 100, 1000, 1, 1000, 1000, 1, 1, 1000};
        for (int i = 0; i < given.length; i++) {
            WordShapes x = new WordShapes(given[i], 10, 10);
            Check.read(x, 0, "POINT (1 -2)");
            Check.due("x with digits " + given[i], x.ordinate(0, 0, 0), units[i]);
            Check.due("y with digits " + given[i], x.ordinate(0, 0, 1), -2 * units[i]);
        }
    }

    /** "at least 1 [..], at most 4096": more calls than the document speaks of, since no fewer bring 4096 points. */
    private static void keepsPointsWithinLimits() {
        int[] given = {Integer.MIN_VALUE, -1, 0, 1, 2, 4095, 4096, 4097, Integer.MAX_VALUE};
        int[] kept = {1, 1, 1, 1, 2, 4095, 4096, 4096, 4096};
        for (int i = 0; i < given.length; i++) {
            String most = "LINESTRING (1 1" + ",1 1".repeat(kept[i] - 1);
            WordShapes x = new WordShapes(0, given[i], 2);
            Check.due("kind with points " + given[i], Check.read(x, 0, most + ")"), 2);
            Check.due("points with points " + given[i], x.count(0, 1), kept[i]);
            Check.dueFault(x, 7, most + ",!1 1)");
        }
    }

    /** "at least [..] 2, at most 4096": rings take one number each, so odd limits are told from even ones. */
    private static void keepsPlanWithinLimits() {
        int[] given = {Integer.MIN_VALUE, -1, 0, 1, 2, 3, 4, 4095, 4096, 4097, Integer.MAX_VALUE};
        int[] kept = {2, 2, 2, 2, 2, 3, 4, 4095, 4096, 4096, 4096};
        for (int i = 0; i < given.length; i++) {
            WordShapes x = new WordShapes(0, 4096, given[i]);
            String rings = kept[i] == 2 ? "POLYGON (" : "POLYGON ((1 1)" + ",(1 1)".repeat(kept[i] - 3);
            if (kept[i] > 2) {
                Check.due("kind with plan " + given[i], Check.read(x, 0, rings + ")"), 3);
                Check.due("numbers with plan " + given[i], x.count(0, 0), kept[i]);
            }
            Check.dueFault(x, 7, rings + (kept[i] == 2 ? "" : ",") + "!(1 1))");
        }
    }

    /** The same within the 512 calls that the document speaks of: a point of MULTIPOINT takes two numbers. */
    private static void keepsPlanWithinLimitsInFewCalls() {
        int[] given = {4094, 4095, 4096, 4097, Integer.MAX_VALUE};
        int[] parts = {2046, 2046, 2047, 2047, 2047};
        for (int i = 0; i < given.length; i++) {
            String most = "MULTIPOINT(1 1" + ",1 1".repeat(parts[i] - 1);
            WordShapes x = new WordShapes(0, 4096, given[i]);
            Check.due("kind with plan " + given[i], Check.read(x, 3, most + ")"), 4);
            Check.due("numbers with plan " + given[i], x.count(3, 0), 2 + 2 * parts[i]);
            Check.due("last number with plan " + given[i], x.plan(3, 1 + 2 * parts[i]), 1);
            Check.dueFault(new WordShapes(0, 4096, given[i]), 7, most + ",!1 1)");
            Check.dueFault(new WordShapes(0, 4096, given[i]), 7, most + ",!EMPTY)");
        }
    }

    /** The smallest object still reads a point and a line of one. */
    private static void keepsTheLeastOfBoth() {
        for (int least : new int[] {Integer.MIN_VALUE, -4096, -1, 0, 1}) {
            WordShapes x = new WordShapes(0, least, least);
            Check.dueShape(x, "POINT(1 2)", "1 1", "1,2");
            Check.dueShape(x, "LINESTRING(3 4)", "2 1", "3,4");
            Check.dueShape(x, "GEOMETRYCOLLECTION EMPTY", "7 0", "");
            Check.dueFault(x, 7, "LINESTRING(3 4,!5 6)");
            Check.dueFault(x, 7, "POLYGON(!(3 4))");
        }
    }
}
