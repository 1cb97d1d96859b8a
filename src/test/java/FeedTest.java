/** Promise 2: twenty bytes come behind the tape, the highest of a first, up to 65536. */
final class FeedTest {
    public static void main(String[] args) {
        keepsTheOrderOfBytes();
        hasAPlaceForEachByte();
        countsBytes();
        refusesMoreThanTheTapeHolds();
        fillsTheTapeFromEachLength();
        Check.finish();
    }

    private static void keepsTheOrderOfBytes() {
        WordShapes x = new WordShapes(0, 10, 10);
        // "POIN" "T (1" "2345" " 678" "90) "
        Check.due("feed", x.feed(0x504F494E, 0x54202831, 0x32333435, 0x20363738, 0x39302920), 20);
        Check.due("kind", x.read(0), 1);
        Check.due("x", x.ordinate(0, 0, 0), 12345);
        Check.due("y", x.ordinate(0, 0, 1), 67890);
        x.feed(0xFF202020, 0, 0, 0, 0);
        Check.dueThrows("a byte above 127", IllegalArgumentException.class, () -> x.read(0));
        Check.due("its fault", x.fault(0), 1);
    }

    /** "the highest of a first": among blanks each byte's fault tells its place, whatever its highest bit. */
    private static void hasAPlaceForEachByte() {
        for (int b : new int[] {0, 1, '#', 127, 128, 160, 255}) {
            for (int i = 0; i < 20; i++) {
                int[] fed = {0x20202020, 0x20202020, 0x20202020, 0x20202020, 0x20202020};
                int shift = 24 - 8 * (i % 4);
                fed[i / 4] = fed[i / 4] & ~(255 << shift) | b << shift;
                WordShapes x = new WordShapes(0, 10, 10);
                x.feed(fed[0], fed[1], fed[2], fed[3], fed[4]);
                Check.dueThrows("read", IllegalArgumentException.class, () -> x.read(0));
                Check.due("fault of byte " + b, x.fault(0), 1);
                Check.due("place of byte " + b, x.fault(1), i);
            }
        }
    }

    private static void countsBytes() {
        WordShapes x = new WordShapes(0, 10, 10);
        Check.due("feed", x.feed(0, 0, 0, 0, 0), 20);
        Check.due("feed", x.feed(-1, -1, -1, -1, -1), 40);
        Check.due("end", x.end(3), 23);
        Check.due("feed", x.feed(0, 0, 0, 0, 0), 43);
        Check.due("count", x.count(0, 2), 43);
    }

    /** More calls than the document speaks of, since no fewer fill the tape. */
    private static void refusesMoreThanTheTapeHolds() {
        WordShapes x = new WordShapes(0, 10, 10);
        for (int i = 1; i <= 3276; i++) {
            Check.due("feed", x.feed(0, 0, 0, 0, 0), 20 * i);
        }
        Check.dueThrows("feed of a full tape", IllegalStateException.class, () -> x.feed(0, 0, 0, 0, 0));
        Check.due("count", x.count(0, 2), 65520);
        Check.due("end", x.end(16), 65516);
        Check.due("feed up to the limit", x.feed(0, 0, 0, 0, 0), 65536);
        Check.dueThrows("feed beyond", IllegalStateException.class, () -> x.feed(0, 0, 0, 0, 0));
        Check.due("count", x.count(0, 2), 65536);
    }

    /** "IllegalStateException, when there would be more than 65536", and what is there stays. */
    private static void fillsTheTapeFromEachLength() {
        for (int length = 65510; length <= 65536; length++) {
            WordShapes x = new WordShapes(0, 10, 10);
            Check.feed(x, "POINT EMPTY" + " ".repeat(length - 11));
            Check.due("tape", x.count(0, 2), length);
            if (length + 20 <= 65536) {
                Check.due("feed behind " + length, x.feed(0x20202020, 0x20202020, 0x20202020, 0x20202020, 0x20202020), length + 20);
            } else {
                Check.dueThrows("feed behind " + length, IllegalStateException.class, () -> x.feed(-1, -1, -1, -1, -1));
                Check.due("tape", x.count(0, 2), length);
            }
            Check.due("what is there stays", x.read(0), 1);
            Check.due("feed of an empty tape", x.feed(0, 0, 0, 0, 0), 20);
        }
    }
}
