/** Promise 2: twenty bytes come behind the tape, the highest of a first, up to 65536. */
final class FeedTest {
    public static void main(String[] args) {
        keepsTheOrderOfBytes();
        countsBytes();
        refusesMoreThanTheTapeHolds();
        Check.finish();
    }

    private static void keepsTheOrderOfBytes() {
        WordShapes x = new WordShapes(0, 10, 10);
        // "POIN" "T (1" "2345" " 678" "90) "
        Check.due("feed", x.feed(0x504F494E, 0x54202831, 0x32333435, 0x20363738, 0x39302920), 20);
        Check.due("kind", x.read(0), 1);
        Check.due("x", x.ordinate(0, 0, 0), 12345);
        Check.due("y", x.ordinate(0, 0, 1), 67890);
        x.feed(0xFF202020, 0, 0, 0, 0);
        Check.dueThrows("a byte above 127", IllegalArgumentException.class, () -> x.read(0));
        Check.due("its fault", x.fault(0), 1);
    }

    private static void countsBytes() {
        WordShapes x = new WordShapes(0, 10, 10);
        Check.due("feed", x.feed(0, 0, 0, 0, 0), 20);
        Check.due("feed", x.feed(-1, -1, -1, -1, -1), 40);
        Check.due("end", x.end(3), 23);
        Check.due("feed", x.feed(0, 0, 0, 0, 0), 43);
        Check.due("count", x.count(0, 2), 43);
    }

    /** More calls than the document speaks of, since no fewer fill the tape. */
    private static void refusesMoreThanTheTapeHolds() {
        WordShapes x = new WordShapes(0, 10, 10);
        for (int i = 1; i <= 3276; i++) {
            Check.due("feed", x.feed(0, 0, 0, 0, 0), 20 * i);
        }
        Check.dueThrows("feed of a full tape", IllegalStateException.class, () -> x.feed(0, 0, 0, 0, 0));
        Check.due("count", x.count(0, 2), 65520);
        Check.due("end", x.end(16), 65516);
        Check.due("feed up to the limit", x.feed(0, 0, 0, 0, 0), 65536);
        Check.dueThrows("feed beyond", IllegalStateException.class, () -> x.feed(0, 0, 0, 0, 0));
        Check.due("count", x.count(0, 2), 65536);
    }
}
