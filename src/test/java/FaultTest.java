/** Promise 5 and the term WHAT IS WRONG: the first thing that is wrong, and its place (the '!' in a text). */
final class FaultTest {
    private static final String GC = "GEOMETRYCOLLECTION";

    public static void main(String[] args) {
        character();
        word();
        expected();
        number();
        range();
        deep();
        behind();
        fullPlan();
        fullPoints();
        places();
        firstOfSeveral();
        isZeroBeforeAndBehindAShape();
        isChangedByReadAlone();
        refusesOtherWhats();
        Check.finish();
    }

    /** On an object of its own, since one is used for at most 512 calls. */
    private static void due(int fault, String marked) {
        Check.dueFault(new WordShapes(0, 100, 4096), fault, marked);
    }

    private static void character() {
        for (int b = 0; b < 256; b++) {
            char c = (char) b;
            boolean used = c < 128 && (Character.isLetterOrDigit(c) || "+-.(), \t\n\r!".indexOf(c) >= 0);
            if (!used) {
                due(1, "!" + c);
                due(1, "POINT !" + c + "(1 2)");
                due(1, "POINT ( !" + c + "1 2)");
                due(1, "POINT (1!" + c + " 2)");
                due(1, "POINT (1 !" + c + "2)");
                due(1, "POINT (1 2!" + c + ")");
                due(8, "POINT (1 2)!" + c);
            }
        }
        Check.dueFault(new WordShapes(0, 100, 4096), 1, 0, "!");
        due(1, "POINT!_EMPTY");
        due(1, "POLYGON (!#(1 2))");
        due(1, "MULTIPOINT (!#)");
        due(1, "MULTILINESTRING (!#)");
        due(1, GC + " (!#)");
    }

    private static void word() {
        for (char c = 'A'; c <= 'Z'; c++) {
            due(2, "!" + c);
            due(2, "!" + (char) (c + 32));
            due(2, "POINT !" + c);
            due(2, "POINT !" + (char) (c + 32));
        }
        due(2, "!POIN (1 2)");
        due(2, "  !POINTS (1 2)");
        due(2, "!POINTEMPTY");
        due(2, "!EMPTY");
        due(2, "!x");
        due(2, "!LINEARRING (1 2)");
        due(2, "POINT !Z (1 2)");
        due(2, "POINT !EMPT");
        due(2, "POINT !EMPTYY");
        due(2, "POINT !POINT");
        due(2, "MULTIPOINT (!e)");
        due(2, "MULTIPOINT (1 2, !POINT (1 2))");
        due(2, "MULTILINESTRING ( !LINESTRING (1 2))");
        due(2, "MULTIPOLYGON (EMPTY, !POLYGON EMPTY)");
        due(2, GC + " (!EMPTY)");
        due(2, GC + " (POINT EMPTY, !nothing (");
    }

    private static void expected() {
        due(3, "!");
        due(3, " \t!");
        for (char c : "0123456789+-.(),".toCharArray()) {
            due(3, "!" + c);
            due(3, GC + " ( !" + c);
        }
        due(3, " !(1 2)");
        due(3, "!+");
        due(3, "!,");
        due(3, "!.");
        due(3, "POINT!");
        due(3, "POINT  !");
        due(3, "POINT!1");
        due(3, "POINT !)");
        due(3, "POINT (!)");
        due(3, "POINT ( !");
        due(3, "POINT (!EMPTY)");
        due(3, "POINT (!e5 2)");
        due(3, "POINT (!(1 2))");
        due(3, "POINT (1!");
        due(3, "POINT (1!)");
        due(3, "POINT (1!,2)");
        due(3, "POINT (1 !,2)");
        due(3, "POINT (1!(2)");
        due(3, "POINT (1 !e)");
        due(3, "POINT (1 2 !3)");
        due(3, "POINT (1 2!, 3 4)");
        due(3, "POINT (1 2!(");
        due(3, "POINT (1 2 !x)");
        due(3, "POINT (1 2  !");
        due(3, "LINESTRING (1 2,!,");
        due(3, "LINESTRING (1 2 !3 4)");
        due(3, "LINESTRING (!(1 2))");
        due(3, "POLYGON (!1 2)");
        due(3, "POLYGON (!EMPTY)");
        due(3, "POLYGON (!)");
        due(3, "POLYGON ((!))");
        due(3, "POLYGON ((1 2),!)");
        due(3, "POLYGON ((1 2)!(3 4))");
        due(3, "MULTIPOINT (!)");
        due(3, "MULTIPOINT ((!EMPTY))");
        due(3, "MULTIPOINT ((1 2!,3 4))");
        due(3, "MULTIPOINT (1 2,!,");
        due(3, "MULTIPOINT (EMPTY!1");
        due(3, "MULTIPOINT (1 2!(3 4))");
        due(3, "MULTILINESTRING (!1 2)");
        due(3, "MULTIPOLYGON ((!1 2))");
        due(3, "MULTIPOLYGON (((1 2)),!");
        due(3, GC + " (!)");
        due(3, GC + " (!(POINT EMPTY))");
        due(3, GC + " (POINT EMPTY !POINT EMPTY)");
        due(3, GC + " (POINT EMPTY,!)");
    }

    private static void number() {
        String[] wrong = {"+", "-", ".", "+.", "-.", ".e5", "1e", "1E", "1e+", "1e-", "1.5e", "1ex", "1e.5", "+-1", "--1",
            "1-2", "1+", "1x", "1.5.2", "..5", "1e5e5", "1e5.5", "1e5x", "1e5-", "1e+-5", "99999999999x", "1EMPTY"};
        for (String one : wrong) {
            due(4, "POINT (!" + one + " 2)");
            due(4, "POINT (1  !" + one + ")");
            due(4, "MULTIPOINT (1 2, !" + one + " 2)");
        }
        due(4, "POINT (!- 1 2)");
        due(4, "POINT (!1e 5)");
        due(4, "POINT (1 !1e");
        due(4, "POINT (1 !+");
    }

    private static void range() {
        String[] wrong = {"1000000001", "-1000000001", "1e10", "-1e10", "1000000000.6", "1000000001.5", "1e999999999",
            "1e99999999999999999999999999", ".1e11", "00000000000000000000010000000000", "-100000000000000000000000000000"};
        for (String one : wrong) {
            due(5, "POINT (!" + one + " #");
            due(5, "POINT (1 !" + one + "#");
        }
        WordShapes fine = new WordShapes(3, 10, 10);
        Check.dueFault(fine, 5, "POINT (!1000000.00050001 2)");
        Check.dueFault(fine, 5, "POINT (!-1000000.001 2)");
        Check.dueFault(fine, 5, "POINT (!1e7 2)");
        Check.dueShape(fine, "POINT(1000000.0005 -1e6)", "1 1", "1000000000,-1000000000");
    }

    private static void deep() {
        String open = (GC + "(").repeat(50);
        due(6, open + "!" + GC + " EMPTY");
        due(6, open + " !" + GC);
        due(6, open + "POINT EMPTY, !" + GC + "#");
        due(2, open + "!" + GC + "S");
        WordShapes tight = new WordShapes(0, 10, 100);
        Check.dueFault(tight, 6, open + "!" + GC + " EMPTY");
        Check.dueFault(tight, 7, open + "POINT !EMPTY");
    }

    private static void behind() {
        for (String rest : new String[] {"x", "1", "(", ")", ",", "#", "POINT EMPTY", ".", "\u00ff", "\u0000"}) {
            due(8, "POINT (1 2)!" + rest);
            due(8, "POINT EMPTY \t!" + rest);
        }
        due(8, GC + " (POINT EMPTY) !)");
        due(8, "POINT EMPTY!1");
    }

    private static void fullPlan() {
        WordShapes two = new WordShapes(0, 10, 2);
        Check.dueFault(two, 7, GC + " (POINT !EMPTY)");
        Check.dueFault(two, 7, GC + " (POINT  !(1 2))");
        Check.dueFault(two, 7, GC + " (POINT!#");
        Check.dueFault(two, 7, GC + " (POINT !");
        Check.dueFault(two, 2, GC + " (!POINTS");
        Check.dueFault(two, 7, "POLYGON ( !(1 2))");
        Check.dueFault(two, 7, "POLYGON (!#");
        Check.dueFault(two, 7, "POLYGON ( !");
        for (String kind : new String[] {"MULTIPOINT", "MULTILINESTRING", "MULTIPOLYGON"}) {
            for (String part : new String[] {"EMPTY", "(1 2)", "1 2", "#", ")", "x", ""}) {
                Check.dueFault(two, 7, kind + " ( !" + part);
            }
        }
        WordShapes three = new WordShapes(0, 10, 3);
        Check.dueFault(three, 7, "MULTIPOINT (!1 2)");
        Check.dueFault(three, 7, "POLYGON ((1 2), !(3 4))");
        Check.dueFault(three, 7, GC + "(POINT!(1 2))");
        WordShapes four = new WordShapes(0, 10, 4);
        Check.dueFault(four, 7, "MULTIPOLYGON ((!(1 2)))");
        Check.dueFault(four, 7, "MULTIPOLYGON (EMPTY,!EMPTY)");
        Check.dueFault(four, 7, GC + "(POINT EMPTY, POINT !EMPTY)");
        Check.dueFault(four, 3, GC + "(POINT EMPTY, !");
    }

    private static void fullPoints() {
        WordShapes one = new WordShapes(0, 1, 20);
        Check.dueFault(one, 7, "LINESTRING (1 2, !3 4)");
        Check.dueFault(one, 7, "LINESTRING (1 2,!)");
        Check.dueFault(one, 7, "LINESTRING (1 2,!#");
        Check.dueFault(one, 7, "LINESTRING (1 2, !");
        Check.dueFault(one, 7, "POLYGON ((1 2),(!3 4))");
        Check.dueFault(one, 3, "POLYGON ((1 2),!3 4)");
        Check.dueFault(one, 7, "MULTIPOINT (1 2, !3 4)");
        Check.dueFault(one, 7, "MULTIPOINT (1 2, !-x");
        Check.dueFault(one, 7, "MULTIPOINT (1 2,( !3 4))");
        Check.dueFault(one, 7, "MULTIPOINT (1 2,( !#");
        Check.dueFault(one, 1, "MULTIPOINT (1 2, !#");
        Check.dueFault(one, 3, "MULTIPOINT (1 2, !)");
        Check.dueFault(one, 2, "MULTIPOINT (1 2, !x");
        Check.dueFault(one, 7, GC + " (POINT (1 2), POINT (!3 4))");
        Check.dueFault(one, 7, GC + " (POINT (1 2), POINT (!)");
        Check.dueShape(one, "MULTIPOINT (1 2,EMPTY)", "4 2 1 1 1 0", "1,2");
    }

    /** "0 for the first byte; the text's length for its end", and blanks are passed over before. */
    private static void places() {
        String blanks = " \t\n\r  ";
        for (String before : new String[] {"", blanks}) {
            due(1, before + "!#");
            due(2, before + "!x");
            due(3, before + "!(");
            due(3, before + "!");
            due(1, "POINT" + before + "!#");
            due(3, "POINT" + before + "!");
            due(3, "POINT(" + before + "!");
            due(3, "POINT(1" + before + "!");
            due(3, "POINT(1 2" + before + "!");
            due(3, "LINESTRING(1 2," + before + "!");
            due(4, "POINT(" + before + "!1x");
            due(4, "POINT(1 " + before + "!+");
            due(5, "POINT(" + before + "!1e10");
            due(5, "POINT(1 " + before + "!1e10");
            due(6, (GC + "(").repeat(50) + before + "!" + GC);
            due(8, "POINT(1 2)" + before + "!#");
            Check.dueFault(new WordShapes(0, 1, 3), 7, GC + "(POINT" + before + "!(1 2))");
            Check.dueFault(new WordShapes(0, 1, 3), 7, "MULTIPOINT(" + before + "!1 2)");
            Check.dueFault(new WordShapes(0, 9, 3), 7, "POLYGON((1 2)," + before + "!(3 4))");
            Check.dueFault(new WordShapes(0, 1, 9), 7, "LINESTRING(1 2," + before + "!3 4)");
        }
    }

    /** "Read from the left to the right": what is wrong further right, or asked later, is not told. */
    private static void firstOfSeveral() {
        due(1, "!#POINTS (x");
        due(2, "!POINTS # 1e10");
        due(3, "POINT !1x #");
        due(4, "POINT (!1e 1e10");
        due(4, "POINT (!9999999999+ 2)");
        due(5, "POINT (!1e10 1x");
        due(5, "POINT (1 !1e10)x");
        due(5, "POINT (!1e10");
        due(5, "POINT (!1e10,");
        due(8, "POINT EMPTY !POINTS");
        WordShapes small = new WordShapes(0, 1, 2);
        Check.dueFault(small, 2, GC + "(!POINTS EMPTY)");
        Check.dueFault(small, 3, GC + "(!1 2)");
        Check.dueFault(small, 7, GC + "(POINT !POINTS)");
        Check.dueFault(small, 7, "LINESTRING (1 2,!1e10 2)");
        Check.dueFault(small, 7, "LINESTRING (1 2,!1x 2)");
        Check.dueFault(small, 5, "LINESTRING (1 !1e10,3 4)");
    }

    /** "0 when nothing was, or before." */
    private static void isZeroBeforeAndBehindAShape() {
        WordShapes x = new WordShapes(0, 10, 10);
        dueFaults(x, 0, 0);
        Check.dueFault(x, 1, "  !#");
        Check.read(x, 1, "POINT EMPTY");
        dueFaults(x, 0, 0);
        Check.dueThrows("read of nothing", IllegalArgumentException.class, () -> x.read(1));
        dueFaults(x, 3, 0);
    }

    /** "In the latest text that was read". */
    private static void isChangedByReadAlone() {
        WordShapes x = new WordShapes(0, 10, 10);
        Check.read(x, 1, "POINT EMPTY");
        Check.dueFault(x, 1, "  !#");
        x.write(1);
        x.again();
        Check.feed(x, "POINT EMPTYPOINT EMPTY");
        Check.dueThrows("write of none", IllegalStateException.class, () -> x.write(0));
        Check.dueThrows("end(21)", IllegalArgumentException.class, () -> x.end(21));
        dueFaults(x, 1, 2);
        Check.dueThrows("read(4)", IndexOutOfBoundsException.class, () -> x.read(4));
        dueFaults(x, 1, 2);
        Check.dueFault(x, 8, "POINT EMPTY   !,");
    }

    /** "IndexOutOfBoundsException, for another what." */
    private static void refusesOtherWhats() {
        WordShapes x = new WordShapes(0, 10, 10);
        for (int turn = 0; turn < 2; turn++) {
            for (int what : new int[] {-1, 2, 3, 256, Integer.MIN_VALUE, Integer.MAX_VALUE}) {
                Check.dueThrows("fault(" + what + ")", IndexOutOfBoundsException.class, () -> x.fault(what));
            }
            Check.dueFault(x, 2, " !x");
        }
    }

    private static void dueFaults(WordShapes x, int fault, int place) {
        Check.due("fault(0)", x.fault(0), fault);
        Check.due("fault(1)", x.fault(1), place);
    }
}
