/** Promise 3: of the last twenty bytes of the tape some count. */
final class EndTest {
    public static void main(String[] args) {
        WordShapes x = new WordShapes(0, 10, 10);
        Check.dueThrows("end(-1)", IllegalArgumentException.class, () -> x.end(-1));
        Check.dueThrows("end(21)", IllegalArgumentException.class, () -> x.end(21));
        Check.dueThrows("end(MIN)", IllegalArgumentException.class, () -> x.end(Integer.MIN_VALUE));
        Check.dueThrows("end(0) of none", IllegalStateException.class, () -> x.end(0));
        Check.dueThrows("end(20) of none", IllegalStateException.class, () -> x.end(20));
        for (int n = 0; n <= 20; n++) {
            int before = x.count(0, 2);
            x.feed(0, 0, 0, 0, 0);
            Check.due("end(" + n + ")", x.end(n), before + n);
            Check.due("count", x.count(0, 2), before + n);
        }
        Check.dueThrows("end(21)", IllegalArgumentException.class, () -> x.end(21));
        Check.due("count", x.count(0, 2), 210);
        endsTwice();
        keepsWhatCounts();
        leavesOutWhatIsGone();
        Check.finish();
    }

    private static void endsTwice() {
        WordShapes x = new WordShapes(0, 10, 10);
        x.feed(0, 0, 0, 0, 0);
        x.feed(0, 0, 0, 0, 0);
        Check.due("end(5)", x.end(5), 25);
        Check.due("end(1)", x.end(1), 6);
        Check.dueThrows("end of six", IllegalStateException.class, () -> x.end(1));
        Check.due("count", x.count(0, 2), 6);
    }

    private static void keepsWhatCounts() {
        WordShapes x = new WordShapes(0, 10, 10);
        Check.feed(x, "POINT (1 2)xxxxxxxxx");
        x.end(11);
        Check.due("kind", x.read(3), 1);
    }

    private static void leavesOutWhatIsGone() {
        dueCut("POINT EMPTY         ", 10, 2, 6);
        dueCut("POINT EMPTY         ", 4, 2, 0);
        dueCut("POINT (1 25)        ", 10, 3, 10);
        dueCut("POINT (1 2e5)       ", 11, 4, 9);
        dueCut("POINT (1 2e+5)      ", 12, 4, 9);
        dueCut("POINT (1 2e+5)      ", 11, 4, 9);
        dueCut("POINT (1 -5)        ", 10, 4, 9);
        dueCut("POINT (1 2.5)       ", 11, 3, 11);
        dueCut("POINT               ", 5, 3, 5);
        dueCut("       POINT EMPTY  ", 7, 3, 7);
        dueCut("POINT (1 2)         ", 10, 3, 10);
    }

    private static void dueCut(String twenty, int n, int fault, int place) {
        WordShapes x = new WordShapes(0, 10, 10);
        Check.feed(x, twenty);
        x.end(n);
        Check.dueThrows("read of the cut " + twenty, IllegalArgumentException.class, () -> x.read(0));
        Check.due("fault(0) of the cut " + twenty, x.fault(0), fault);
        Check.due("fault(1) of the cut " + twenty, x.fault(1), place);
    }
}
