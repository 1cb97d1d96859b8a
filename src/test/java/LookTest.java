/** Promises 9 to 12: plan, ordinate, byteAt and count, with the slots and places that are none. */
final class LookTest {
    private static final int[] NO_SLOTS = {-1, 4, Integer.MIN_VALUE, Integer.MAX_VALUE};

    public static void main(String[] args) {
        WordShapes x = new WordShapes(1, 10, 10);
        Check.read(x, 2, "POLYGON ((1 2, 3 4), (-5 0.6))");
        looksAtPlan(x);
        looksAtOrdinates(x);
        looksAtBytes(x);
        counts(x);
        showsNothingOfWhatWasBefore();
        showsNoPointOfEmptyShapes();
        showsTheLastOfTheLargest();
        Check.finish();
    }

    private static void dueNone(String what, Check.Call call) {
        Check.dueThrows(what, IndexOutOfBoundsException.class, call);
    }

    private static void looksAtPlan(WordShapes x) {
        int[] plan = {3, 2, 2, 1};
        for (int i = 0; i < plan.length; i++) {
            Check.due("plan " + i, x.plan(2, i), plan[i]);
        }
        for (int i : new int[] {-1, 4, 9, 10, Integer.MIN_VALUE, Integer.MAX_VALUE}) {
            dueNone("plan " + i, () -> x.plan(2, i));
        }
        dueNone("plan of none", () -> x.plan(0, 0));
        for (int slot : NO_SLOTS) {
            dueNone("plan of slot " + slot, () -> x.plan(slot, 0));
        }
    }

    private static void looksAtOrdinates(WordShapes x) {
        int[] ordinates = {10, 20, 30, 40, -50, 6};
        for (int i = 0; i < ordinates.length; i++) {
            Check.due("ordinate " + i, x.ordinate(2, i / 2, i % 2), ordinates[i]);
        }
        for (int i : new int[] {-1, 3, 9, 10, Integer.MIN_VALUE, Integer.MAX_VALUE, 1 << 30, 1 << 31}) {
            dueNone("point " + i, () -> x.ordinate(2, i, 0));
            dueNone("point " + i, () -> x.ordinate(2, i, 1));
            dueNone("what " + i, () -> x.ordinate(2, 0, i));
        }
        dueNone("what 2", () -> x.ordinate(2, 0, 2));
        dueNone("point of none", () -> x.ordinate(0, 0, 0));
        for (int slot : NO_SLOTS) {
            dueNone("ordinate of slot " + slot, () -> x.ordinate(slot, 0, 0));
        }
    }

    private static void looksAtBytes(WordShapes x) {
        dueNone("byte of no result", () -> x.byteAt(0));
        String want = "POLYGON ((1 2, 3 4), (-5 0.6))";
        Check.due("write", x.write(2), want.length());
        for (int i = 0; i < want.length(); i++) {
            Check.due("byte " + i, x.byteAt(i), want.charAt(i));
        }
        for (int i : new int[] {-1, want.length(), 131071, 131072, Integer.MIN_VALUE, Integer.MAX_VALUE}) {
            dueNone("byte " + i, () -> x.byteAt(i));
        }
    }

    private static void counts(WordShapes x) {
        x.feed(0, 0, 0, 0, 0);
        int[][] want = {{0, 0, 20, 30}, {0, 0, 20, 30}, {4, 3, 20, 30}, {0, 0, 20, 30}};
        for (int slot = 0; slot < 4; slot++) {
            for (int what = 0; what < 4; what++) {
                Check.due("count " + slot + " " + what, x.count(slot, what), want[slot][what]);
            }
            for (int what : NO_SLOTS) {
                int one = slot;
                dueNone("count of " + what, () -> x.count(one, what));
            }
        }
        for (int slot : NO_SLOTS) {
            for (int what = 0; what < 4; what++) {
                int one = what;
                dueNone("count of slot " + slot, () -> x.count(slot, one));
            }
        }
    }

    /** "when there is no such [..] number", point or byte: what a larger shape or result left behind is none. */
    private static void showsNothingOfWhatWasBefore() {
        WordShapes x = new WordShapes(0, 10, 10);
        Check.read(x, 1, "POLYGON ((1 2, 3 4), (5 6))");
        x.write(1);
        Check.read(x, 1, "POINT (7 8)");
        Check.due("last number", x.plan(1, 1), 1);
        dueNone("number behind", () -> x.plan(1, 2));
        Check.due("last y", x.ordinate(1, 0, 1), 8);
        dueNone("point behind", () -> x.ordinate(1, 1, 0));
        Check.due("last byte before", x.byteAt(26), ')');
        x.write(1);
        Check.due("last byte", x.byteAt(10), ')');
        dueNone("byte behind", () -> x.byteAt(11));
        dueNone("byte of the one before", () -> x.byteAt(26));
        Check.dueFault(x, 3, "POINT (1 2!");
        Check.dueThrows("read", IllegalArgumentException.class, () -> Check.read(x, 1, "POINT (1 2"));
        dueNone("number of none", () -> x.plan(1, 0));
        dueNone("point of none", () -> x.ordinate(1, 0, 0));
        Check.due("a byte of the result stays", x.byteAt(10), ')');
    }

    private static void showsNoPointOfEmptyShapes() {
        WordShapes x = new WordShapes(0, 10, 10);
        for (String text : new String[] {"POINT EMPTY", "POLYGON EMPTY", "MULTIPOINT (EMPTY, EMPTY)", "GEOMETRYCOLLECTION EMPTY"}) {
            Check.read(x, 3, text);
            dueNone("point of " + text, () -> x.ordinate(3, 0, 0));
            Check.due("points of " + text, x.count(3, 1), 0);
            dueNone("number behind " + text, () -> x.plan(3, x.count(3, 0)));
        }
    }

    /** The last number, point and byte of a shape that fills its object. */
    private static void showsTheLastOfTheLargest() {
        WordShapes x = new WordShapes(0, 4, 10);
        Check.read(x, 0, "MULTIPOINT (1 2, 3 4, 5 6, 7 8)");
        Check.due("numbers", x.count(0, 0), 10);
        Check.due("points", x.count(0, 1), 4);
        Check.due("last number", x.plan(0, 9), 1);
        dueNone("number 10", () -> x.plan(0, 10));
        Check.due("last x", x.ordinate(0, 3, 0), 7);
        Check.due("last y", x.ordinate(0, 3, 1), 8);
        dueNone("point 4", () -> x.ordinate(0, 4, 0));
        dueNone("what 2 of the last", () -> x.ordinate(0, 3, 2));
        dueNone("what -1 of the last", () -> x.ordinate(0, 3, -1));
        dueNone("what 3 of the first", () -> x.ordinate(0, 0, 3));
    }
}
