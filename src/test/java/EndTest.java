/** Promise 3: of the last twenty bytes of the tape some count. */
final class EndTest {
    public static void main(String[] args) {
        WordShapes x = new WordShapes(0, 10, 10);
        Check.dueThrows("end(-1)", IllegalArgumentException.class, () -> x.end(-1));
        Check.dueThrows("end(21)", IllegalArgumentException.class, () -> x.end(21));
        Check.dueThrows("end(MIN)", IllegalArgumentException.class, () -> x.end(Integer.MIN_VALUE));
        Check.dueThrows("end(0) of none", IllegalStateException.class, () -> x.end(0));
        Check.dueThrows("end(20) of none", IllegalStateException.class, () -> x.end(20));
        for (int n = 0; n <= 20; n++) {
            int before = x.count(0, 2);
            x.feed(0, 0, 0, 0, 0);
            Check.due("end(" + n + ")", x.end(n), before + n);
            Check.due("count", x.count(0, 2), before + n);
        }
        Check.dueThrows("end(21)", IllegalArgumentException.class, () -> x.end(21));
        Check.due("count", x.count(0, 2), 210);
        endsTwice();
        needsTwentyBytes();
        refusesOtherNumbersFirst();
        endsATapeFromAgain();
        keepsWhatCounts();
        leavesOutWhatIsGone();
        Check.finish();
    }

    private static void endsTwice() {
        WordShapes x = new WordShapes(0, 10, 10);
        x.feed(0, 0, 0, 0, 0);
        x.feed(0, 0, 0, 0, 0);
        Check.due("end(5)", x.end(5), 25);
        Check.due("end(1)", x.end(1), 6);
        Check.dueThrows("end of six", IllegalStateException.class, () -> x.end(1));
        Check.due("count", x.count(0, 2), 6);
    }

    private static void keepsWhatCounts() {
        WordShapes x = new WordShapes(0, 10, 10);
        Check.feed(x, "POINT (1 2)xxxxxxxxx");
        x.end(11);
        Check.due("kind", x.read(3), 1);
    }

    private static void leavesOutWhatIsGone() {
        dueCut("POINT EMPTY         ", 10, 2, 6);
        dueCut("POINT EMPTY         ", 4, 2, 0);
        dueCut("POINT (1 25)        ", 10, 3, 10);
        dueCut("POINT (1 2e5)       ", 11, 4, 9);
        dueCut("POINT (1 2e+5)      ", 12, 4, 9);
        dueCut("POINT (1 2e+5)      ", 11, 4, 9);
        dueCut("POINT (1 -5)        ", 10, 4, 9);
        dueCut("POINT (1 2.5)       ", 11, 3, 11);
        dueCut("POINT               ", 5, 3, 5);
        dueCut("       POINT EMPTY  ", 7, 3, 7);
        dueCut("POINT (1 2)         ", 10, 3, 10);
    }

    private static void dueCut(String twenty, int n, int fault, int place) {
        WordShapes x = new WordShapes(0, 10, 10);
        Check.feed(x, twenty);
        x.end(n);
        Check.dueThrows("read of the cut " + twenty, IllegalArgumentException.class, () -> x.read(0));
        Check.due("fault(0) of the cut " + twenty, x.fault(0), fault);
        Check.due("fault(1) of the cut " + twenty, x.fault(1), place);
    }

    /** "IllegalStateException, when it has less than twenty", with every length up to that. */
    private static void needsTwentyBytes() {
        for (int length = 0; length <= 20; length++) {
            for (int n : new int[] {0, 1, 19, 20}) {
                WordShapes x = new WordShapes(0, 10, 10);
                x.feed(0, 0, 0, 0, 0);
                Check.due("end(" + length + ")", x.end(length), length);
                if (length < 20) {
                    Check.dueThrows("end of " + length, IllegalStateException.class, () -> x.end(n));
                    Check.due("tape", x.count(0, 2), length);
                } else {
                    Check.due("end of " + length, x.end(n), n);
                }
            }
        }
    }

    /** "Of several exceptions the first one told is thrown." */
    private static void refusesOtherNumbersFirst() {
        for (int n : new int[] {-1, -20, 21, 40, 256, Integer.MIN_VALUE, Integer.MAX_VALUE}) {
            WordShapes x = new WordShapes(0, 10, 10);
            Check.dueThrows("end(" + n + ") of none", IllegalArgumentException.class, () -> x.end(n));
            Check.feed(x, "POINT EMPTY");
            Check.dueThrows("end(" + n + ") of few", IllegalArgumentException.class, () -> x.end(n));
            Check.feed(x, " ".repeat(20));
            Check.dueThrows("end(" + n + ") of enough", IllegalArgumentException.class, () -> x.end(n));
            Check.due("tape", x.count(0, 2), 31);
            Check.due("what is there stays", x.read(0), 1);
        }
    }

    private static void endsATapeFromAgain() {
        WordShapes x = new WordShapes(0, 10, 10);
        Check.read(x, 0, "LINESTRING(1 2,3 4,5 6)");
        Check.due("write", x.write(0), 26);
        x.again();
        Check.due("end", x.end(19), 25);
        Check.feed(x, ",7 8)");
        Check.due("read", x.read(1), 2);
        Check.due("points", Check.pointsOf(x, 1), "1,2 3,4 5,6 7,8");
        Check.due("the result stays", x.count(0, 3), 26);
        Check.read(x, 2, "POINT(1 2)");
        x.write(2);
        x.again();
        Check.dueThrows("end of eleven", IllegalStateException.class, () -> x.end(11));
    }
}
