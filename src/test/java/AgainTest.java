/** Promise 7: the result is the tape from now on, cut behind 65536 bytes. */
final class AgainTest {
    public static void main(String[] args) {
        WordShapes x = new WordShapes(0, 10, 10);
        Check.feed(x, "POINT");
        Check.due("again without a result", x.again(), 0);
        Check.due("tape", x.count(0, 2), 0);
        Check.read(x, 0, "POINT(1 2)");
        x.write(0);
        Check.feed(x, "something else that is longer");
        Check.due("again", x.again(), 11);
        Check.due("tape", x.count(0, 2), 11);
        Check.due("the result stays", x.count(0, 3), 11);
        Check.due("a byte of it too", x.byteAt(0), 'P');
        Check.due("feed goes on behind it", x.feed(0x20202020, 0x20202020, 0x20202020, 0x20202020, 0x20202020), 31);
        Check.due("read", x.read(1), 1);
        Check.due("same", x.same(0, 1) ? 1 : 0, 1);
        Check.due("again once more", x.again(), 11);
        Check.due("read", x.read(2), 1);
        cutsALongResult();
        Check.finish();
    }

    /** More calls than the document speaks of, since no fewer make so long a result. */
    private static void cutsALongResult() {
        WordShapes x = new WordShapes(0, 4096, 4096);
        Check.read(x, 0, "LINESTRING(1e9 1e9" + ",1e9 1e9".repeat(4095) + ")");
        Check.due("write", x.write(0), 12 + 4096 * 23 - 2 + 1);
        Check.due("again", x.again(), 65536);
        Check.due("tape", x.count(0, 2), 65536);
        Check.dueThrows("feed", IllegalStateException.class, () -> x.feed(0, 0, 0, 0, 0));
        Check.dueThrows("read", IllegalArgumentException.class, () -> x.read(1));
        // 12 bytes before the points, 23 a point: the last one has its x and nine digits of its y.
        Check.due("fault(0)", x.fault(0), 3);
        Check.due("fault(1)", x.fault(1), 65536);
    }
}
