/** Promise 4: which shapes are read, what plan and points they have, and what becomes of tape and slot. */
final class ReadTest {
    public static void main(String[] args) {
        readsEachKind();
        readsEmptyShapes();
        readsBlanksAndSmallLetters();
        readsCollections();
        emptiesTheTape();
        readsNothing();
        leavesTheSlotWithNone();
        leavesNothingOfATextThatIsWrong();
        changesNothingWithoutSuchSlot();
        leavesFaultWithoutSuchSlot();
        readsAFullTape();
        Check.finish();
    }

    private static void readsEachKind() {
        WordShapes x = new WordShapes(0, 100, 100);
        Check.dueShape(x, "POINT(1 2)", "1 1", "1,2");
        Check.dueShape(x, "LINESTRING(1 2)", "2 1", "1,2");
        Check.dueShape(x, "LINESTRING(1 2,3 4,-5 -6)", "2 3", "1,2 3,4 -5,-6");
        Check.dueShape(x, "POLYGON((1 2,3 4))", "3 1 2", "1,2 3,4");
        Check.dueShape(x, "POLYGON((1 2,3 4),(5 6),(7 8,9 10,11 12))", "3 3 2 1 3", "1,2 3,4 5,6 7,8 9,10 11,12");
        Check.dueShape(x, "MULTIPOINT(1 2)", "4 1 1 1", "1,2");
        Check.dueShape(x, "MULTIPOINT((1 2),3 4,EMPTY,(5 6))", "4 4 1 1 1 1 1 0 1 1", "1,2 3,4 5,6");
        Check.dueShape(x, "MULTILINESTRING((1 2,3 4),EMPTY,(5 6))", "5 3 2 2 2 0 2 1", "1,2 3,4 5,6");
        Check.dueShape(x, "MULTIPOLYGON(((1 2,3 4),(5 6)),EMPTY,((7 8)))", "6 3 3 2 2 1 3 0 3 1 1", "1,2 3,4 5,6 7,8");
        Check.dueShape(x, "GEOMETRYCOLLECTION(POINT(1 2),POLYGON EMPTY)", "7 2 1 1 3 0", "1,2");
    }

    private static void readsEmptyShapes() {
        WordShapes x = new WordShapes(0, 100, 100);
        String[] words = {"POINT", "LINESTRING", "POLYGON", "MULTIPOINT", "MULTILINESTRING", "MULTIPOLYGON",
            "GEOMETRYCOLLECTION"};
        for (int i = 0; i < words.length; i++) {
            Check.dueShape(x, words[i] + " EMPTY", i + 1 + " 0", "");
        }
    }

    private static void readsBlanksAndSmallLetters() {
        WordShapes x = new WordShapes(0, 100, 100);
        Check.dueShape(x, " \t\n\rpOiNt \t\n\r( \t\n\r1 \t\n\r2 \t\n\r) \t\n\r", "1 1", "1,2");
        Check.dueShape(x, "MultiPolygon ( ( ( 1 2 , 3 4 ) , ( 5 6 ) ) , empty )", "6 2 3 2 2 1 3 0", "1,2 3,4 5,6");
        Check.dueShape(x, "Point\nEmpty", "1 0", "");
        Check.dueShape(x, "multipoint(1\t2,Empty,(3\r4))", "4 3 1 1 1 0 1 1", "1,2 3,4");
    }

    private static void readsCollections() {
        Check.dueShape(new WordShapes(0, 100, 200),
            "GEOMETRYCOLLECTION(GEOMETRYCOLLECTION(POINT(1 2),GEOMETRYCOLLECTION EMPTY),MULTIPOINT(3 4),LINESTRING(5 6,7 8))",
            "7 3 7 2 1 1 7 0 4 1 1 1 2 2", "1,2 3,4 5,6 7,8");
        String deepest = "GEOMETRYCOLLECTION(".repeat(50) + "MULTIPOLYGON(((1 2)))" + ")".repeat(50);
        Check.dueShape(new WordShapes(0, 100, 200), deepest, "7 1 ".repeat(50) + "6 1 3 1 1", "1,2");
        String side = "GEOMETRYCOLLECTION(".repeat(49) + "GEOMETRYCOLLECTION EMPTY,GEOMETRYCOLLECTION(POINT EMPTY)"
            + ")".repeat(49);
        Check.dueShape(new WordShapes(0, 100, 200), side, "7 1 ".repeat(48) + "7 2 7 0 7 1 1 0", "");
    }

    private static void emptiesTheTape() {
        WordShapes x = new WordShapes(0, 10, 10);
        Check.read(x, 0, "POINT (1 2)");
        Check.due("tape behind a shape", x.count(0, 2), 0);
        Check.dueThrows("read of nothing", IllegalArgumentException.class, () -> x.read(1));
        Check.feed(x, "POINT (1 2");
        Check.dueThrows("read of what is wrong", IllegalArgumentException.class, () -> x.read(1));
        Check.due("tape behind what is wrong", x.count(0, 2), 0);
        for (int slot : new int[] {-1, 4, Integer.MIN_VALUE, Integer.MAX_VALUE}) {
            Check.feed(x, "POINT (1 2)");
            Check.dueThrows("read(" + slot + ")", IndexOutOfBoundsException.class, () -> x.read(slot));
            Check.due("tape without such slot", x.count(0, 2), 0);
        }
    }

    private static void leavesTheSlotWithNone() {
        WordShapes x = new WordShapes(0, 10, 10);
        for (int slot = 0; slot < 4; slot++) {
            Check.due("kind", Check.read(x, slot, "LINESTRING (1 2," + slot + " 4)"), 2);
        }
        Check.feed(x, "LINESTRING (1 2,3 4) x");
        Check.dueThrows("read", IllegalArgumentException.class, () -> x.read(2));
        Check.due("numbers", x.count(2, 0), 0);
        Check.due("points", x.count(2, 1), 0);
        for (int slot = 0; slot < 4; slot++) {
            Check.due("points of slot " + slot, Check.pointsOf(x, slot), slot == 2 ? "" : "1,2 " + slot + ",4");
        }
    }

    private static void leavesFaultWithoutSuchSlot() {
        WordShapes x = new WordShapes(0, 10, 10);
        Check.dueFault(x, 3, "POINT (1 !");
        Check.feed(x, "POINT (1 2)");
        Check.dueThrows("read(4)", IndexOutOfBoundsException.class, () -> x.read(4));
        Check.due("fault(0)", x.fault(0), 3);
        Check.due("fault(1)", x.fault(1), 9);
        Check.read(x, 0, "POINT (1 2)");
        Check.feed(x, "#");
        Check.dueThrows("read(-1)", IndexOutOfBoundsException.class, () -> x.read(-1));
        Check.due("fault(0)", x.fault(0), 0);
        Check.due("count", x.count(0, 1), 1);
    }

    /** The empty text is wrong at its end, and is the text that was read. */
    private static void readsNothing() {
        WordShapes x = new WordShapes(0, 10, 10);
        Check.read(x, 2, "POINT (1 2)");
        Check.dueThrows("read of nothing", IllegalArgumentException.class, () -> x.read(2));
        Check.due("fault(0)", x.fault(0), 3);
        Check.due("fault(1)", x.fault(1), 0);
        Check.due("numbers", x.count(2, 0), 0);
        Check.dueThrows("write", IllegalStateException.class, () -> x.write(2));
        x.feed(0, 0, 0, 0, 0);
        x.end(0);
        Check.dueThrows("read of what is gone", IllegalArgumentException.class, () -> x.read(2));
        Check.due("fault(0)", x.fault(0), 3);
        Check.due("fault(1)", x.fault(1), 0);
    }

    private static void leavesNothingOfATextThatIsWrong() {
        WordShapes x = new WordShapes(0, 5, 12);
        for (String wrong : new String[] {"GEOMETRYCOLLECTION(GEOMETRYCOLLECTION(POLYGON((1 2,3 4),(5 6", "MULTIPOINT(1 2,3 4,5 6,7 8,9 9,",
            "LINESTRING(1 2,3 4,5 6,7 8,9 9,1 1", "POINT(1 1e10", "POINT(1 2) POINT"}) {
            Check.feed(x, wrong);
            Check.dueThrows("read of " + wrong, IllegalArgumentException.class, () -> x.read(0));
            Check.due("numbers", x.count(0, 0), 0);
            Check.due("points", x.count(0, 1), 0);
            Check.dueShape(x, "LINESTRING(1 2,3 4,5 6,7 8,9 9)", "2 5", "1,2 3,4 5,6 7,8 9,9");
            Check.dueShape(x, "POINT EMPTY", "1 0", "");
        }
    }

    /** "The tape [..] is empty then, in any case, also when there is no such slot; then fault() is as it was". */
    private static void changesNothingWithoutSuchSlot() {
        for (int slot : new int[] {-1, 4, Integer.MIN_VALUE, Integer.MAX_VALUE}) {
            WordShapes x = new WordShapes(0, 10, 10);
            Check.read(x, 0, "LINESTRING (1 2, 3 4)");
            x.write(0);
            for (String text : new String[] {"POINT (5 6)", "POINT (", ""}) {
                Check.feed(x, text);
                Check.dueThrows("read(" + slot + ")", IndexOutOfBoundsException.class, () -> x.read(slot));
                Check.due("tape", x.count(0, 2), 0);
                Check.due("fault(0)", x.fault(0), 0);
                Check.due("fault(1)", x.fault(1), 0);
                Check.due("result", x.count(0, 3), 21);
                Check.due("points", Check.pointsOf(x, 0), "1,2 3,4");
                for (int other = 1; other < 4; other++) {
                    Check.due("numbers", x.count(other, 0), 0);
                }
            }
        }
    }

    /** More calls than the document speaks of, since no fewer fill the tape. */
    private static void readsAFullTape() {
        dueFull("", " ", 3, 65536);
        dueFull("", "P", 2, 0);
        dueFull("POINT ", "E", 2, 6);
        dueFull("POINT (1 2", " ", 3, 65536);
        dueFull("POINT (1 ", "0", 3, 65536);
        dueFull("POINT (1 ", "9", 5, 9);
        dueFull("POINT (1 0.", "9", 3, 65536);
        dueFull("POINT (1 2e", "0", 3, 65536);
        dueFull("POINT (1 2e-", "9", 3, 65536);
        dueFull("POINT (1 2e", "9", 5, 9);
        dueFull("MULTIPOINT (1 2,", "(", 3, 17);
        dueFull("POINT (1 2)", ")", 8, 11);
        for (String last : new String[] {"1e", "1e+", "1E-", "+", "-", "."}) {
            dueFull("POINT (1 ", " ", last, 4, 65536 - last.length());
        }
        dueFull("POINT (1 ", " ", "1.", 3, 65536);
        dueFull("POINT (1 ", " ", "1e5", 3, 65536);
        dueFull("POINT (1 2)", " ", "#", 8, 65535);
        dueFull("POINT ", " ", "EMPT", 2, 65532);
        dueFull("POINT ", " ", "(", 3, 65536);
        dueFull("LINESTRING (1 2", " ", ",", 3, 65536);
        WordShapes x = new WordShapes(0, 10, 10);
        feedFull(x, " ".repeat(65536 - 11) + "POINT (1 2)");
        Check.due("a shape at the end of a full tape", x.read(0), 1);
        feedFull(x, "POINT (1 2" + " ".repeat(65536 - 11) + ")");
        Check.due("a shape over a full tape", x.read(0), 1);
    }

    private static void dueFull(String start, String filler, int fault, int place) {
        dueFull(start, filler, "", fault, place);
    }

    private static void dueFull(String start, String filler, String last, int fault, int place) {
        WordShapes x = new WordShapes(0, 10, 10);
        String text = start + filler.repeat(65536 - start.length() - last.length()) + last;
        feedFull(x, text);
        Check.dueThrows("read of " + start, IllegalArgumentException.class, () -> x.read(0));
        Check.due("fault(0) of " + start, x.fault(0), fault);
        Check.due("fault(1) of " + start, x.fault(1), place);
    }

    private static void feedFull(WordShapes x, String text) {
        Check.feed(x, text);
        Check.due("a full tape", x.count(0, 2), 65536);
    }
}
