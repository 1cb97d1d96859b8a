/** The term SHAPES: the slots, the plan of each kind at its least, and how large x and y may be. */
final class ShapeTest {
    public static void main(String[] args) {
        slotsAreNoneAtFirst();
        slotsAreFour();
        plansAtTheirLeast();
        ordinatesReachTheirLimits();
        ordinatesBeyondAreOutOfRange();
        Check.finish();
    }

    /** "SHAPES lie in SLOTS 0 .. 3, none at first." */
    private static void slotsAreNoneAtFirst() {
        for (int slot = 0; slot < 4; slot++) {
            int one = slot;
            WordShapes x = new WordShapes(0, 10, 10);
            Check.due("numbers at first", x.count(slot, 0), 0);
            Check.due("points at first", x.count(slot, 1), 0);
            Check.due("same at first", x.same(slot, 3 - slot) ? 1 : 0, 1);
            Check.dueThrows("plan at first", IndexOutOfBoundsException.class, () -> x.plan(one, 0));
            Check.dueThrows("ordinate at first", IndexOutOfBoundsException.class, () -> x.ordinate(one, 0, 0));
            Check.dueThrows("write at first", IllegalStateException.class, () -> x.write(one));
        }
    }

    private static void slotsAreFour() {
        WordShapes x = new WordShapes(0, 10, 10);
        for (int slot = 0; slot < 4; slot++) {
            Check.due("read " + slot, Check.read(x, slot, "LINESTRING (" + slot + " 7" + ",1 1".repeat(slot) + ")"), 2);
        }
        for (int slot = 0; slot < 4; slot++) {
            Check.due("points of slot " + slot, Check.pointsOf(x, slot), slot + ",7" + " 1,1".repeat(slot));
        }
        for (int slot : new int[] {-1, 4, 5, 256, Integer.MIN_VALUE, Integer.MAX_VALUE}) {
            dueNoSlot("read", () -> x.read(slot));
            dueNoSlot("write", () -> x.write(slot));
            dueNoSlot("same", () -> x.same(slot, 0) ? 1 : 0);
            dueNoSlot("same", () -> x.same(0, slot) ? 1 : 0);
            dueNoSlot("same", () -> x.same(slot, slot) ? 1 : 0);
            dueNoSlot("plan", () -> x.plan(slot, 0));
            dueNoSlot("ordinate", () -> x.ordinate(slot, 0, 0));
            for (int what = 0; what < 4; what++) {
                int one = what;
                dueNoSlot("count", () -> x.count(slot, one));
            }
        }
    }

    private static void dueNoSlot(String what, Check.Call call) {
        Check.dueThrows(what + " of no slot", IndexOutOfBoundsException.class, call);
    }

    /** "POINT: 1, and how many points (1, or 0 when it is empty)", and the others, with nothing and with one of each. */
    private static void plansAtTheirLeast() {
        WordShapes x = new WordShapes(0, 1, 5);
        Check.dueShape(x, "POINT EMPTY", "1 0", "");
        Check.dueShape(x, "POINT(1 2)", "1 1", "1,2");
        Check.dueShape(x, "LINESTRING EMPTY", "2 0", "");
        Check.dueShape(x, "LINESTRING(1 2)", "2 1", "1,2");
        Check.dueShape(x, "POLYGON EMPTY", "3 0", "");
        Check.dueShape(x, "POLYGON((1 2))", "3 1 1", "1,2");
        Check.dueShape(x, "MULTIPOINT EMPTY", "4 0", "");
        Check.dueShape(x, "MULTIPOINT(EMPTY)", "4 1 1 0", "");
        Check.dueShape(x, "MULTIPOINT(1 2)", "4 1 1 1", "1,2");
        Check.dueShape(x, "MULTIPOINT((1 2))", "4 1 1 1", "1,2");
        Check.dueShape(x, "MULTILINESTRING EMPTY", "5 0", "");
        Check.dueShape(x, "MULTILINESTRING(EMPTY)", "5 1 2 0", "");
        Check.dueShape(x, "MULTILINESTRING((1 2))", "5 1 2 1", "1,2");
        Check.dueShape(x, "MULTIPOLYGON EMPTY", "6 0", "");
        Check.dueShape(x, "MULTIPOLYGON(EMPTY)", "6 1 3 0", "");
        Check.dueShape(x, "MULTIPOLYGON(((1 2)))", "6 1 3 1 1", "1,2");
        Check.dueShape(x, "GEOMETRYCOLLECTION EMPTY", "7 0", "");
        Check.dueShape(x, "GEOMETRYCOLLECTION(GEOMETRYCOLLECTION EMPTY)", "7 1 7 0", "");
        Check.dueShape(x, "GEOMETRYCOLLECTION(POINT(1 2))", "7 1 1 1", "1,2");
    }

    /** The largest x and y, without the zeros that stand behind the dot then. */
    private static String largest(int digits) {
        return "1" + "0".repeat(9 - digits);
    }

    /** "x and y are whole numbers from -1000000000 to 1000000000", also when they become so by rounding. */
    private static void ordinatesReachTheirLimits() {
        for (int digits = 0; digits < 4; digits++) {
            String zeros = "." + "0".repeat(digits);
            for (String behind : new String[] {"", ".", zeros, zeros + "4", zeros + "49999999999", zeros + "5", zeros + "5000000"}) {
                dueBoth(digits, largest(digits) + behind, 1000000000);
                dueBoth(digits, "-" + largest(digits) + behind, -1000000000);
            }
            String below = "9".repeat(9 - digits) + "." + "9".repeat(digits);
            dueBoth(digits, below, 999999999);
            dueBoth(digits, below + "4", 999999999);
            dueBoth(digits, below + "5", 1000000000);
            dueBoth(digits, "-" + below + "5", -1000000000);
        }
    }

    private static void dueBoth(int digits, String number, int units) {
        WordShapes x = new WordShapes(digits, 1, 2);
        Check.dueShape(x, "POINT(" + number + " 0)", "1 1", units + ",0");
        Check.dueShape(x, "POINT(0 " + number + ")", "1 1", "0," + units);
    }

    private static void ordinatesBeyondAreOutOfRange() {
        for (int digits = 0; digits < 4; digits++) {
            String zeros = "." + "0".repeat(digits);
            String oneMore = digits == 0 ? "1000000001" : largest(digits) + "." + "0".repeat(digits - 1) + "1";
            String[] beyond = {largest(digits) + zeros + "6", largest(digits) + zeros + "50000000001", oneMore,
                largest(digits) + "0", largest(digits) + "e1", largest(digits) + "e99999999999"};
            for (String number : beyond) {
                for (String sign : new String[] {"", "+", "-"}) {
                    WordShapes x = new WordShapes(digits, 1, 2);
                    Check.dueFault(x, 5, "POINT(!" + sign + number + " 0)");
                    Check.dueFault(x, 5, "POINT(0 !" + sign + number + ")");
                }
            }
        }
    }
}
