import java.math.BigDecimal;

/** Promise 6 and the term WRITING: what a shape is written as. */
final class WriteTest {
    public static void main(String[] args) {
        writesEachKind();
        writesNumbers();
        writesNoDigitMoreThanNeeded();
        refusesOnANewObject();
        refusesWrongSlots();
        replacesTheResult();
        staysWhenRefused();
        writesNearlyTheMost();
        Check.finish();
    }

    /** Each on an object of its own, since one is used for at most 512 calls. */
    private static void due(int digits, String text, String want) {
        due(new WordShapes(digits, 100, 200), text, want);
    }

    private static void due(WordShapes x, String text, String want) {
        Check.read(x, 1, text);
        Check.due("write of " + text, Check.written(x, 1), want);
        Check.due("count", x.count(0, 3), want.length());
    }

    private static void writesEachKind() {
        due(0, "point(1 2)", "POINT (1 2)");
        due(0, "point empty", "POINT EMPTY");
        due(0, "linestring(1 2)", "LINESTRING (1 2)");
        due(0, "linestring(1 2,3 4,5 6)", "LINESTRING (1 2, 3 4, 5 6)");
        due(0, "linestring empty", "LINESTRING EMPTY");
        due(0, "polygon((1 2,3 4),(5 6))", "POLYGON ((1 2, 3 4), (5 6))");
        due(0, "polygon empty", "POLYGON EMPTY");
        due(0, "multipoint(1 2,(3 4),empty)", "MULTIPOINT ((1 2), (3 4), EMPTY)");
        due(0, "multipoint empty", "MULTIPOINT EMPTY");
        due(0, "multilinestring((1 2,3 4),empty,(5 6))", "MULTILINESTRING ((1 2, 3 4), EMPTY, (5 6))");
        due(0, "multilinestring empty", "MULTILINESTRING EMPTY");
        due(0, "multipolygon(empty,((1 2,3 4),(5 6)),((7 8)))", "MULTIPOLYGON (EMPTY, ((1 2, 3 4), (5 6)), ((7 8)))");
        due(0, "multipolygon empty", "MULTIPOLYGON EMPTY");
        due(0, "geometrycollection empty", "GEOMETRYCOLLECTION EMPTY");
        due(0, "geometrycollection(point(1 2),geometrycollection(point empty,multipoint(3 4)),polygon((5 6)))",
            "GEOMETRYCOLLECTION (POINT (1 2), GEOMETRYCOLLECTION (POINT EMPTY, MULTIPOINT ((3 4))), POLYGON ((5 6)))");
        due(0, "geometrycollection(".repeat(50) + "multipolygon(((1 2)))" + ")".repeat(50),
            "GEOMETRYCOLLECTION (".repeat(50) + "MULTIPOLYGON (((1 2)))" + ")".repeat(50));
    }

    private static void writesNumbers() {
        String[][] numbers = {
            {"0", "-0", "7", "-7", "10", "1000000000", "-1000000000", "123456789"},
            {"0", "0.1", "-0.1", "1", "10", "10.5", "100000000", "-99999999.9"},
            {"0", "0.01", "-0.1", "1.05", "100", "-10000000", "9999999.99", "0.5"},
            {"0", "0.001", "-0.001", "0.01", "0.1", "1.5", "-1.05", "1.005", "100", "1000000", "-999999.999", "120.12"}};
        for (int digits = 0; digits < 4; digits++) {
            for (String one : numbers[digits]) {
                String want = one.equals("-0") ? "0" : one;
                due(digits, "POINT (" + one + " 1)", "POINT (" + want + " 1)");
                due(digits, "POINT (2 " + one + ")", "POINT (2 " + want + ")");
            }
        }
        due(3, "POINT (1.500 -0.0004)", "POINT (1.5 0)");
    }

    /** "a - for those below 0, at least one digit before the dot, no dot without digits, no zero at the end behind it" */
    private static void writesNoDigitMoreThanNeeded() {
        int[] units = {0, 1, 5, 9, 10, 11, 50, 99, 100, 101, 110, 500, 999, 1000, 1001, 1010, 1100, 5000, 9999, 10000, 10001, 123456789,
            999999999, 1000000000};
        for (int digits = 0; digits < 4; digits++) {
            for (int one : units) {
                dueUnits(digits, one);
                dueUnits(digits, -one);
            }
        }
    }

    private static void dueUnits(int digits, int units) {
        String given = units + "e-" + digits;
        BigDecimal plain = BigDecimal.valueOf(units, digits);
        String want = plain.signum() == 0 ? "0" : plain.stripTrailingZeros().toPlainString();
        due(digits, "POINT (" + given + " 7)", "POINT (" + want + " 7)");
        due(digits, "POINT (7 " + given + ")", "POINT (7 " + want + ")");
    }

    /** "IndexOutOfBoundsException, when there is no such slot; IllegalStateException, when it has none" */
    private static void refusesOnANewObject() {
        WordShapes x = new WordShapes(0, 10, 10);
        for (int slot = 0; slot < 4; slot++) {
            int one = slot;
            Check.dueThrows("write(" + slot + ")", IllegalStateException.class, () -> x.write(one));
        }
        Check.dueThrows("write(-1)", IndexOutOfBoundsException.class, () -> x.write(-1));
        Check.dueThrows("write(4)", IndexOutOfBoundsException.class, () -> x.write(4));
        Check.due("no result", x.count(0, 3), 0);
    }

    private static void refusesWrongSlots() {
        WordShapes x = new WordShapes(0, 10, 10);
        due(x, "POINT (1 2)", "POINT (1 2)");
        for (int slot : new int[] {-1, 4, Integer.MIN_VALUE, Integer.MAX_VALUE}) {
            Check.dueThrows("write(" + slot + ")", IndexOutOfBoundsException.class, () -> x.write(slot));
        }
        Check.dueThrows("write of none", IllegalStateException.class, () -> x.write(0));
        Check.due("the result stays", x.count(0, 3), 11);
        Check.dueFault(x, 3, "POINT (1 2!");
        Check.read(x, 0, "POINT EMPTY");
        Check.due("write", Check.written(x, 0), "POINT EMPTY");
        Check.due("write leaves the slot", Check.planOf(x, 0), "1 0");
        Check.dueThrows("read of what is wrong", IllegalArgumentException.class, () -> Check.read(x, 0, "#"));
        Check.dueThrows("write of none again", IllegalStateException.class, () -> x.write(0));
    }

    private static void replacesTheResult() {
        WordShapes x = new WordShapes(0, 10, 10);
        due(x, "LINESTRING (1 2, 3 4)", "LINESTRING (1 2, 3 4)");
        due(x, "POINT (5 6)", "POINT (5 6)");
        Check.dueThrows("behind the result", IndexOutOfBoundsException.class, () -> x.byteAt(11));
        Check.feed(x, "POINT (1");
        x.write(1);
        Check.due("write leaves the tape", x.count(0, 2), 8);
    }

    private static void staysWhenRefused() {
        WordShapes x = new WordShapes(0, 10, 10);
        due(x, "POINT (1 2)", "POINT (1 2)");
        Check.dueThrows("write of none", IllegalStateException.class, () -> x.write(0));
        Check.dueThrows("write(4)", IndexOutOfBoundsException.class, () -> x.write(4));
        Check.due("the result stays", x.again(), 11);
        Check.due("and is the same", x.read(2), 1);
        Check.due("and is the same", x.same(1, 2) ? 1 : 0, 1);
    }

    /**
     * 4096 points, 4096 plan numbers and a tape with less room than one word more: by our count no text is written with
     * a dozen bytes more than this, so that a result would be more than 131072 can't be reached. More calls than the
     * document speaks of, since no fewer fill the tape.
     */
    private static void writesNearlyTheMost() {
        int bare = 1064;
        int empties = 981;
        String far = "-1e9 -1e9";
        String given = "GEOMETRYCOLLECTION(LINESTRING(" + far + ("," + far).repeat(4095 - bare) + "),MULTIPOINT(" + far
            + ("," + far).repeat(bare - 1) + ")" + ",GEOMETRYCOLLECTION EMPTY".repeat(empties) + ")";
        String written = "-1000000000 -1000000000";
        String want = "GEOMETRYCOLLECTION (LINESTRING (" + written + (", " + written).repeat(4095 - bare) + "), MULTIPOINT (("
            + written + ("), (" + written).repeat(bare - 1) + "))" + ", GEOMETRYCOLLECTION EMPTY".repeat(empties) + ")";
        Check.due("a tape that is nearly full", given.length(), 65528);
        Check.due("a result that is nearly too long", want.length(), 130079);
        WordShapes x = new WordShapes(0, 4096, 4096);
        due(x, given, want);
        Check.due("numbers", x.count(1, 0), 4096);
        Check.due("points", x.count(1, 1), 4096);
    }
}
