/** Promise 7: the result is the tape from now on, cut behind 65536 bytes. */
final class AgainTest {
    public static void main(String[] args) {
        WordShapes x = new WordShapes(0, 10, 10);
        Check.feed(x, "POINT");
        Check.due("again without a result", x.again(), 0);
        Check.due("tape", x.count(0, 2), 0);
        Check.read(x, 0, "POINT(1 2)");
        x.write(0);
        Check.feed(x, "something else that is longer");
        Check.due("again", x.again(), 11);
        Check.due("tape", x.count(0, 2), 11);
        Check.due("the result stays", x.count(0, 3), 11);
        Check.due("a byte of it too", x.byteAt(0), 'P');
        Check.due("feed goes on behind it", x.feed(0x20202020, 0x20202020, 0x20202020, 0x20202020, 0x20202020), 31);
        Check.due("read", x.read(1), 1);
        Check.due("same", x.same(0, 1) ? 1 : 0, 1);
        Check.due("again once more", x.again(), 11);
        Check.due("read", x.read(2), 1);
        changesNoShapeOrFault();
        cutsALongResult();
        cutsBehind65536();
        Check.finish();
    }

    /** More calls than the document speaks of, since no fewer make so long a result. */
    private static void cutsALongResult() {
        WordShapes x = new WordShapes(0, 4096, 4096);
        Check.read(x, 0, "LINESTRING(1e9 1e9" + ",1e9 1e9".repeat(4095) + ")");
        Check.due("write", x.write(0), 12 + 4096 * 23 - 2 + 1);
        Check.due("again", x.again(), 65536);
        Check.due("tape", x.count(0, 2), 65536);
        Check.dueThrows("feed", IllegalStateException.class, () -> x.feed(0, 0, 0, 0, 0));
        Check.dueThrows("read", IllegalArgumentException.class, () -> x.read(1));
        // 12 bytes before the points, 23 a point: the last one has its x and nine digits of its y.
        Check.due("fault(0)", x.fault(0), 3);
        Check.due("fault(1)", x.fault(1), 65536);
    }

    private static void changesNoShapeOrFault() {
        WordShapes x = new WordShapes(0, 10, 10);
        Check.read(x, 0, "POINT(1 2)");
        x.write(0);
        Check.dueFault(x, 2, "  !x");
        Check.due("again", x.again(), 11);
        Check.due("fault(0)", x.fault(0), 2);
        Check.due("fault(1)", x.fault(1), 2);
        Check.due("slot 0 has none", x.count(0, 0), 0);
        Check.due("again of the same", x.again(), 11);
        Check.due("read", x.read(3), 1);
        Check.due("point", Check.pointsOf(x, 3), "1,2");
    }

    /** "cut behind 65536 bytes: how many", for results just below, at and above that; again more than 512 calls. */
    private static void cutsBehind65536() {
        for (int length = 65534; length <= 65538; length++) {
            WordShapes x = new WordShapes(0, 4096, 4096);
            Check.read(x, 0, lineWrittenWith(length));
            Check.due("write", x.write(0), length);
            Check.due("again", x.again(), Math.min(length, 65536));
            Check.due("tape", x.count(0, 2), Math.min(length, 65536));
            Check.due("the result stays", x.count(0, 3), length);
            if (length <= 65536) {
                Check.due("read", x.read(1), 2);
                Check.due("same", x.same(0, 1) ? 1 : 0, 1);
            } else {
                Check.dueThrows("read of what is cut", IllegalArgumentException.class, () -> x.read(1));
                Check.due("fault(0)", x.fault(0), 3);
                Check.due("fault(1)", x.fault(1), 65536);
            }
        }
    }

    /** A LINESTRING of points with 23 bytes each, the comma and its blank with them, and one that fills up. */
    private static String lineWrittenWith(int length) {
        int most = (length - "LINESTRING ()".length() - "1 1".length()) / 23;
        int rest = length - "LINESTRING ()".length() - 23 * most - 1;
        int first = Math.min(rest - 1, 10);
        return "LINESTRING(" + "1e9 1e9,".repeat(most) + "1e" + (first - 1) + " 1e" + (rest - first - 1) + ")";
    }
}
