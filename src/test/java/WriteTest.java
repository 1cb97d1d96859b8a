/** Promise 6 and the term WRITING: what a shape is written as. */
final class WriteTest {
    public static void main(String[] args) {
        writesEachKind();
        writesNumbers();
        refusesWrongSlots();
        replacesTheResult();
        Check.finish();
    }

    private static void due(WordShapes x, String text, String want) {
        Check.read(x, 1, text);
        Check.due("write of " + text, Check.written(x, 1), want);
        Check.due("count", x.count(0, 3), want.length());
    }

    private static void writesEachKind() {
        WordShapes x = new WordShapes(0, 100, 200);
        due(x, "point(1 2)", "POINT (1 2)");
        due(x, "point empty", "POINT EMPTY");
        due(x, "linestring(1 2)", "LINESTRING (1 2)");
        due(x, "linestring(1 2,3 4,5 6)", "LINESTRING (1 2, 3 4, 5 6)");
        due(x, "linestring empty", "LINESTRING EMPTY");
        due(x, "polygon((1 2,3 4),(5 6))", "POLYGON ((1 2, 3 4), (5 6))");
        due(x, "polygon empty", "POLYGON EMPTY");
        due(x, "multipoint(1 2,(3 4),empty)", "MULTIPOINT ((1 2), (3 4), EMPTY)");
        due(x, "multipoint empty", "MULTIPOINT EMPTY");
        due(x, "multilinestring((1 2,3 4),empty,(5 6))", "MULTILINESTRING ((1 2, 3 4), EMPTY, (5 6))");
        due(x, "multilinestring empty", "MULTILINESTRING EMPTY");
        due(x, "multipolygon(empty,((1 2,3 4),(5 6)),((7 8)))", "MULTIPOLYGON (EMPTY, ((1 2, 3 4), (5 6)), ((7 8)))");
        due(x, "multipolygon empty", "MULTIPOLYGON EMPTY");
        due(x, "geometrycollection empty", "GEOMETRYCOLLECTION EMPTY");
        due(x, "geometrycollection(point(1 2),geometrycollection(point empty,multipoint(3 4)),polygon((5 6)))",
            "GEOMETRYCOLLECTION (POINT (1 2), GEOMETRYCOLLECTION (POINT EMPTY, MULTIPOINT ((3 4))), POLYGON ((5 6)))");
        due(x, "geometrycollection(".repeat(50) + "multipolygon(((1 2)))" + ")".repeat(50),
            "GEOMETRYCOLLECTION (".repeat(50) + "MULTIPOLYGON (((1 2)))" + ")".repeat(50));
    }

    private static void writesNumbers() {
        String[][] numbers = {
            {"0", "-0", "7", "-7", "10", "1000000000", "-1000000000", "123456789"},
            {"0", "0.1", "-0.1", "1", "10", "10.5", "100000000", "-99999999.9"},
            {"0", "0.01", "-0.1", "1.05", "100", "-10000000", "9999999.99", "0.5"},
            {"0", "0.001", "-0.001", "0.01", "0.1", "1.5", "-1.05", "1.005", "100", "1000000", "-999999.999", "120.12"}};
        for (int digits = 0; digits < 4; digits++) {
            WordShapes x = new WordShapes(digits, 10, 10);
            for (String one : numbers[digits]) {
                String want = one.equals("-0") ? "0" : one;
                due(x, "POINT (" + one + " 1)", "POINT (" + want + " 1)");
                due(x, "POINT (2 " + one + ")", "POINT (2 " + want + ")");
            }
        }
        due(new WordShapes(3, 10, 10), "POINT (1.500 -0.0004)", "POINT (1.5 0)");
    }

    private static void refusesWrongSlots() {
        WordShapes x = new WordShapes(0, 10, 10);
        due(x, "POINT (1 2)", "POINT (1 2)");
        for (int slot : new int[] {-1, 4, Integer.MIN_VALUE, Integer.MAX_VALUE}) {
            Check.dueThrows("write(" + slot + ")", IndexOutOfBoundsException.class, () -> x.write(slot));
        }
        Check.dueThrows("write of none", IllegalStateException.class, () -> x.write(0));
        Check.due("the result stays", x.count(0, 3), 11);
        Check.dueFault(x, 3, "POINT (1 2!");
        Check.read(x, 0, "POINT EMPTY");
        Check.due("write", Check.written(x, 0), "POINT EMPTY");
        Check.due("write leaves the slot", Check.planOf(x, 0), "1 0");
        Check.dueThrows("read of what is wrong", IllegalArgumentException.class, () -> Check.read(x, 0, "#"));
        Check.dueThrows("write of none again", IllegalStateException.class, () -> x.write(0));
    }

    private static void replacesTheResult() {
        WordShapes x = new WordShapes(0, 10, 10);
        due(x, "LINESTRING (1 2, 3 4)", "LINESTRING (1 2, 3 4)");
        due(x, "POINT (5 6)", "POINT (5 6)");
        Check.dueThrows("behind the result", IndexOutOfBoundsException.class, () -> x.byteAt(11));
        Check.feed(x, "POINT (1");
        x.write(1);
        Check.due("write leaves the tape", x.count(0, 2), 8);
    }
}
