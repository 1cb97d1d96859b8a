/** Promise 8: whether two slots have the same shape. */
final class SameTest {
    public static void main(String[] args) {
        String[] shapes = {"POINT (1 2)", "POINT (3 2)", "POINT (1 3)", "POINT EMPTY", "LINESTRING EMPTY", "LINESTRING (1 2)",
            "LINESTRING (1 2, 3 4)", "LINESTRING (3 4, 1 2)", "POLYGON ((1 2, 3 4))", "POLYGON ((1 2), (3 4))",
            "MULTIPOINT (1 2, 3 4)", "MULTIPOINT (1 2, EMPTY, 3 4)", "MULTIPOINT (EMPTY, 1 2, 3 4)",
            "GEOMETRYCOLLECTION (POINT (1 2))", "GEOMETRYCOLLECTION (POINT (1 2), POINT EMPTY)", "POINT (1 2"};
        for (int i = 0; i < shapes.length; i++) {
            for (int j = 0; j < shapes.length; j++) {
                WordShapes x = new WordShapes(0, 20, 20);
                readOrNone(x, 0, shapes[i]);
                readOrNone(x, 3, " " + shapes[j]);
                Check.due(shapes[i] + " and " + shapes[j], x.same(0, 3) ? 1 : 0, i == j ? 1 : 0);
                Check.due(shapes[j] + " and " + shapes[i], x.same(3, 0) ? 1 : 0, i == j ? 1 : 0);
                Check.due("same slot", x.same(0, 0) ? 1 : 0, 1);
            }
        }
        WordShapes x = new WordShapes(0, 20, 20);
        Check.due("both none", x.same(1, 2) ? 1 : 0, 1);
        readOrNone(x, 0, "MULTIPOINT (1 2, (3 4))");
        readOrNone(x, 3, "multipoint((1e0 2.),(0.3e1 +4))");
        Check.due("written otherwise", x.same(0, 3) ? 1 : 0, 1);
        for (int slot : new int[] {-1, 4, Integer.MIN_VALUE, Integer.MAX_VALUE}) {
            Check.dueThrows("same first", IndexOutOfBoundsException.class, () -> x.same(slot, 0) ? 1 : 0);
            Check.dueThrows("same second", IndexOutOfBoundsException.class, () -> x.same(0, slot) ? 1 : 0);
            Check.dueThrows("same both", IndexOutOfBoundsException.class, () -> x.same(slot, slot) ? 1 : 0);
            Check.dueThrows("same of none", IndexOutOfBoundsException.class, () -> x.same(2, slot) ? 1 : 0);
        }
        isToldByTheLatestShapes();
        Check.finish();
    }

    /** What a slot had before, or only tried to read, does not count. */
    private static void isToldByTheLatestShapes() {
        WordShapes x = new WordShapes(0, 20, 20);
        readOrNone(x, 0, "LINESTRING (1 2, 3 4, 5 6)");
        readOrNone(x, 0, "LINESTRING (1 2)");
        readOrNone(x, 1, "LINESTRING (1 2)");
        Check.due("a shorter one behind a longer one", x.same(0, 1) ? 1 : 0, 1);
        readOrNone(x, 0, "LINESTRING (1 2) x");
        Check.due("none and a shape", x.same(0, 1) ? 1 : 0, 0);
        Check.due("none behind a shape, and none", x.same(0, 2) ? 1 : 0, 1);
        readOrNone(x, 2, "POINT EMPTY");
        Check.due("none and an empty shape", x.same(0, 2) ? 1 : 0, 0);
    }

    private static void readOrNone(WordShapes x, int slot, String text) {
        try {
            Check.read(x, slot, text);
        } catch (IllegalArgumentException e) {
            Check.due("numbers of " + text, x.count(slot, 0), 0);
        }
    }
}
