/** Promise 5 and the term WHAT IS WRONG: the first thing that is wrong, and its place (the '!' in a text). */
final class FaultTest {
    private static final String GC = "GEOMETRYCOLLECTION";

    public static void main(String[] args) {
        WordShapes x = new WordShapes(0, 100, 4096);
        character(x);
        word(x);
        expected(x);
        number(x);
        range(x);
        deep(x);
        behind(x);
        fullPlan();
        fullPoints();
        dueWhats(x);
        Check.finish();
    }

    private static void character(WordShapes x) {
        for (int b = 0; b < 256; b++) {
            char c = (char) b;
            boolean used = c < 128 && (Character.isLetterOrDigit(c) || "+-.(), \t\n\r!".indexOf(c) >= 0);
            if (!used) {
                Check.dueFault(x, 1, "!" + c);
                Check.dueFault(x, 1, "POINT !" + c + "(1 2)");
                Check.dueFault(x, 1, "POINT ( !" + c + "1 2)");
                Check.dueFault(x, 1, "POINT (1!" + c + " 2)");
                Check.dueFault(x, 1, "POINT (1 !" + c + "2)");
                Check.dueFault(x, 1, "POINT (1 2!" + c + ")");
                Check.dueFault(x, 8, "POINT (1 2)!" + c);
            }
        }
        Check.dueFault(x, 1, 0, "!");
        Check.dueFault(x, 1, "POINT!_EMPTY");
        Check.dueFault(x, 1, "POLYGON (!#(1 2))");
        Check.dueFault(x, 1, "MULTIPOINT (!#)");
        Check.dueFault(x, 1, "MULTILINESTRING (!#)");
        Check.dueFault(x, 1, GC + " (!#)");
    }

    private static void word(WordShapes x) {
        for (char c = 'A'; c <= 'Z'; c++) {
            Check.dueFault(x, 2, "!" + c);
            Check.dueFault(x, 2, "!" + (char) (c + 32));
            Check.dueFault(x, 2, "POINT !" + c);
            Check.dueFault(x, 2, "POINT !" + (char) (c + 32));
        }
        Check.dueFault(x, 2, "!POIN (1 2)");
        Check.dueFault(x, 2, "  !POINTS (1 2)");
        Check.dueFault(x, 2, "!POINTEMPTY");
        Check.dueFault(x, 2, "!EMPTY");
        Check.dueFault(x, 2, "!x");
        Check.dueFault(x, 2, "!LINEARRING (1 2)");
        Check.dueFault(x, 2, "POINT !Z (1 2)");
        Check.dueFault(x, 2, "POINT !EMPT");
        Check.dueFault(x, 2, "POINT !EMPTYY");
        Check.dueFault(x, 2, "POINT !POINT");
        Check.dueFault(x, 2, "MULTIPOINT (!e)");
        Check.dueFault(x, 2, "MULTIPOINT (1 2, !POINT (1 2))");
        Check.dueFault(x, 2, "MULTILINESTRING ( !LINESTRING (1 2))");
        Check.dueFault(x, 2, "MULTIPOLYGON (EMPTY, !POLYGON EMPTY)");
        Check.dueFault(x, 2, GC + " (!EMPTY)");
        Check.dueFault(x, 2, GC + " (POINT EMPTY, !nothing (");
    }

    private static void expected(WordShapes x) {
        Check.dueFault(x, 3, "!");
        Check.dueFault(x, 3, " \t!");
        for (char c : "0123456789+-.(),".toCharArray()) {
            Check.dueFault(x, 3, "!" + c);
            Check.dueFault(x, 3, GC + " ( !" + c);
        }
        Check.dueFault(x, 3, " !(1 2)");
        Check.dueFault(x, 3, "!+");
        Check.dueFault(x, 3, "!,");
        Check.dueFault(x, 3, "!.");
        Check.dueFault(x, 3, "POINT!");
        Check.dueFault(x, 3, "POINT  !");
        Check.dueFault(x, 3, "POINT!1");
        Check.dueFault(x, 3, "POINT !)");
        Check.dueFault(x, 3, "POINT (!)");
        Check.dueFault(x, 3, "POINT ( !");
        Check.dueFault(x, 3, "POINT (!EMPTY)");
        Check.dueFault(x, 3, "POINT (!e5 2)");
        Check.dueFault(x, 3, "POINT (!(1 2))");
        Check.dueFault(x, 3, "POINT (1!");
        Check.dueFault(x, 3, "POINT (1!)");
        Check.dueFault(x, 3, "POINT (1!,2)");
        Check.dueFault(x, 3, "POINT (1 !,2)");
        Check.dueFault(x, 3, "POINT (1!(2)");
        Check.dueFault(x, 3, "POINT (1 !e)");
        Check.dueFault(x, 3, "POINT (1 2 !3)");
        Check.dueFault(x, 3, "POINT (1 2!, 3 4)");
        Check.dueFault(x, 3, "POINT (1 2!(");
        Check.dueFault(x, 3, "POINT (1 2 !x)");
        Check.dueFault(x, 3, "POINT (1 2  !");
        Check.dueFault(x, 3, "LINESTRING (1 2,!,");
        Check.dueFault(x, 3, "LINESTRING (1 2 !3 4)");
        Check.dueFault(x, 3, "LINESTRING (!(1 2))");
        Check.dueFault(x, 3, "POLYGON (!1 2)");
        Check.dueFault(x, 3, "POLYGON (!EMPTY)");
        Check.dueFault(x, 3, "POLYGON (!)");
        Check.dueFault(x, 3, "POLYGON ((!))");
        Check.dueFault(x, 3, "POLYGON ((1 2),!)");
        Check.dueFault(x, 3, "POLYGON ((1 2)!(3 4))");
        Check.dueFault(x, 3, "MULTIPOINT (!)");
        Check.dueFault(x, 3, "MULTIPOINT ((!EMPTY))");
        Check.dueFault(x, 3, "MULTIPOINT ((1 2!,3 4))");
        Check.dueFault(x, 3, "MULTIPOINT (1 2,!,");
        Check.dueFault(x, 3, "MULTIPOINT (EMPTY!1");
        Check.dueFault(x, 3, "MULTIPOINT (1 2!(3 4))");
        Check.dueFault(x, 3, "MULTILINESTRING (!1 2)");
        Check.dueFault(x, 3, "MULTIPOLYGON ((!1 2))");
        Check.dueFault(x, 3, "MULTIPOLYGON (((1 2)),!");
        Check.dueFault(x, 3, GC + " (!)");
        Check.dueFault(x, 3, GC + " (!(POINT EMPTY))");
        Check.dueFault(x, 3, GC + " (POINT EMPTY !POINT EMPTY)");
        Check.dueFault(x, 3, GC + " (POINT EMPTY,!)");
    }

    private static void number(WordShapes x) {
        String[] wrong = {"+", "-", ".", "+.", "-.", ".e5", "1e", "1E", "1e+", "1e-", "1.5e", "1ex", "1e.5", "+-1", "--1",
            "1-2", "1+", "1x", "1.5.2", "..5", "1e5e5", "1e5.5", "1e5x", "1e5-", "1e+-5", "99999999999x", "1EMPTY"};
        for (String one : wrong) {
            Check.dueFault(x, 4, "POINT (!" + one + " 2)");
            Check.dueFault(x, 4, "POINT (1  !" + one + ")");
            Check.dueFault(x, 4, "MULTIPOINT (1 2, !" + one + " 2)");
        }
        Check.dueFault(x, 4, "POINT (!- 1 2)");
        Check.dueFault(x, 4, "POINT (!1e 5)");
        Check.dueFault(x, 4, "POINT (1 !1e");
        Check.dueFault(x, 4, "POINT (1 !+");
    }

    private static void range(WordShapes x) {
        String[] wrong = {"1000000001", "-1000000001", "1e10", "-1e10", "1000000000.6", "1000000001.5", "1e999999999",
            "1e99999999999999999999999999", ".1e11", "00000000000000000000010000000000", "-100000000000000000000000000000"};
        for (String one : wrong) {
            Check.dueFault(x, 5, "POINT (!" + one + " #");
            Check.dueFault(x, 5, "POINT (1 !" + one + "#");
        }
        WordShapes fine = new WordShapes(3, 10, 10);
        Check.dueFault(fine, 5, "POINT (!1000000.00050001 2)");
        Check.dueFault(fine, 5, "POINT (!-1000000.001 2)");
        Check.dueFault(fine, 5, "POINT (!1e7 2)");
        Check.dueShape(fine, "POINT(1000000.0005 -1e6)", "1 1", "1000000000,-1000000000");
    }

    private static void deep(WordShapes x) {
        String open = (GC + "(").repeat(50);
        Check.dueFault(x, 6, open + "!" + GC + " EMPTY");
        Check.dueFault(x, 6, open + " !" + GC);
        Check.dueFault(x, 6, open + "POINT EMPTY, !" + GC + "#");
        Check.dueFault(x, 2, open + "!" + GC + "S");
        WordShapes tight = new WordShapes(0, 10, 100);
        Check.dueFault(tight, 6, open + "!" + GC + " EMPTY");
        Check.dueFault(tight, 7, open + "POINT !EMPTY");
    }

    private static void behind(WordShapes x) {
        for (String rest : new String[] {"x", "1", "(", ")", ",", "#", "POINT EMPTY", ".", "\u00ff", "\u0000"}) {
            Check.dueFault(x, 8, "POINT (1 2)!" + rest);
            Check.dueFault(x, 8, "POINT EMPTY \t!" + rest);
        }
        Check.dueFault(x, 8, GC + " (POINT EMPTY) !)");
        Check.dueFault(x, 8, "POINT EMPTY!1");
    }

    private static void fullPlan() {
        WordShapes two = new WordShapes(0, 10, 2);
        Check.dueFault(two, 7, GC + " (POINT !EMPTY)");
        Check.dueFault(two, 7, GC + " (POINT  !(1 2))");
        Check.dueFault(two, 7, GC + " (POINT!#");
        Check.dueFault(two, 7, GC + " (POINT !");
        Check.dueFault(two, 2, GC + " (!POINTS");
        Check.dueFault(two, 7, "POLYGON ( !(1 2))");
        Check.dueFault(two, 7, "POLYGON (!#");
        Check.dueFault(two, 7, "POLYGON ( !");
        for (String kind : new String[] {"MULTIPOINT", "MULTILINESTRING", "MULTIPOLYGON"}) {
            for (String part : new String[] {"EMPTY", "(1 2)", "1 2", "#", ")", "x", ""}) {
                Check.dueFault(two, 7, kind + " ( !" + part);
            }
        }
        WordShapes three = new WordShapes(0, 10, 3);
        Check.dueFault(three, 7, "MULTIPOINT (!1 2)");
        Check.dueFault(three, 7, "POLYGON ((1 2), !(3 4))");
        Check.dueFault(three, 7, GC + "(POINT!(1 2))");
        WordShapes four = new WordShapes(0, 10, 4);
        Check.dueFault(four, 7, "MULTIPOLYGON ((!(1 2)))");
        Check.dueFault(four, 7, "MULTIPOLYGON (EMPTY,!EMPTY)");
        Check.dueFault(four, 7, GC + "(POINT EMPTY, POINT !EMPTY)");
        Check.dueFault(four, 3, GC + "(POINT EMPTY, !");
    }

    private static void fullPoints() {
        WordShapes one = new WordShapes(0, 1, 20);
        Check.dueFault(one, 7, "LINESTRING (1 2, !3 4)");
        Check.dueFault(one, 7, "LINESTRING (1 2,!)");
        Check.dueFault(one, 7, "LINESTRING (1 2,!#");
        Check.dueFault(one, 7, "LINESTRING (1 2, !");
        Check.dueFault(one, 7, "POLYGON ((1 2),(!3 4))");
        Check.dueFault(one, 3, "POLYGON ((1 2),!3 4)");
        Check.dueFault(one, 7, "MULTIPOINT (1 2, !3 4)");
        Check.dueFault(one, 7, "MULTIPOINT (1 2, !-x");
        Check.dueFault(one, 7, "MULTIPOINT (1 2,( !3 4))");
        Check.dueFault(one, 7, "MULTIPOINT (1 2,( !#");
        Check.dueFault(one, 1, "MULTIPOINT (1 2, !#");
        Check.dueFault(one, 3, "MULTIPOINT (1 2, !)");
        Check.dueFault(one, 2, "MULTIPOINT (1 2, !x");
        Check.dueFault(one, 7, GC + " (POINT (1 2), POINT (!3 4))");
        Check.dueFault(one, 7, GC + " (POINT (1 2), POINT (!)");
        Check.dueShape(one, "MULTIPOINT (1 2,EMPTY)", "4 2 1 1 1 0", "1,2");
    }

    private static void dueWhats(WordShapes x) {
        Check.dueFault(x, 1, "  !#");
        Check.read(x, 1, "POINT EMPTY");
        Check.due("fault(0) behind a shape", x.fault(0), 0);
        Check.due("fault(1) behind a shape", x.fault(1), 0);
        for (int what : new int[] {-1, 2, Integer.MIN_VALUE, Integer.MAX_VALUE}) {
            Check.dueThrows("fault(" + what + ")", IndexOutOfBoundsException.class, () -> x.fault(what));
        }
    }
}
