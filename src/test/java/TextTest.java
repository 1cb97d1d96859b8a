/** The term TEXT and what A SHAPE is: blanks, words, marks, and what must stand between them at least. */
final class TextTest {
    private static final String GC = "GEOMETRYCOLLECTION";
    private static final String[] WORDS = {"POINT", "LINESTRING", "POLYGON", "MULTIPOINT", "MULTILINESTRING", "MULTIPOLYGON", GC};
    private static final int[] BLANKS = {32, 9, 10, 13};

    public static void main(String[] args) {
        eachBlankMayStandAnywhere();
        noOtherByteIsABlank();
        noBlankMustStand();
        coordinatesNeedABlank();
        lettersAreLargeAndSmallAlike();
        nothingBetweenBracketsIsWrong();
        commasStandBetweenTwo();
        onlySomePartsMayBeEmpty();
        coordinatesAloneAreForMultipointOnly();
        theTextIsOneShape();
        Check.finish();
    }

    private static WordShapes fresh() {
        return new WordShapes(0, 20, 40);
    }

    private static void dueWrong(int fault, String marked) {
        Check.dueFault(fresh(), fault, marked);
    }

    /** "BLANKS (32, 9, 10, 13) may stand before and behind any of these". */
    private static void eachBlankMayStandAnywhere() {
        String[] pieces = {GC, "(", "MULTIPOINT", "(", "1", "2", ",", "(", "3", "4", ")", ",", "EMPTY", ")", ",", "POLYGON", "(",
            "(", "5", "6", ")", ",", "(", "7", "8", ")", ")", ",", "POINT", "EMPTY", ")"};
        for (int blank : BLANKS) {
            for (int many = 1; many <= 3; many++) {
                String blanks = String.valueOf((char) blank).repeat(many);
                StringBuilder text = new StringBuilder(blanks);
                for (String piece : pieces) {
                    text.append(piece).append(blanks);
                }
                Check.dueShape(fresh(), text.toString(), "7 3 4 3 1 1 1 1 1 0 3 2 1 1 1 0", "1,2 3,4 5,6 7,8");
            }
        }
    }

    private static void noOtherByteIsABlank() {
        for (int b = 0; b < 256; b++) {
            if (b != 32 && b != 9 && b != 10 && b != 13) {
                String c = String.valueOf((char) b);
                dueNotRead(c + "POINT EMPTY");
                dueNotRead("POINT" + c + "EMPTY");
                dueNotRead("POINT EMPTY" + c);
                dueNotRead("POINT(1" + c + "2)");
            }
        }
    }

    private static void dueNotRead(String text) {
        WordShapes x = fresh();
        Check.dueThrows("read of '" + text + "'", IllegalArgumentException.class, () -> Check.read(x, 0, text));
    }

    private static void noBlankMustStand() {
        Check.dueShape(fresh(), GC + "(MULTIPOLYGON(((1 2,3 4),(5 6)),EMPTY),MULTIPOINT(7 8,(9 10)))",
            "7 2 6 2 3 2 2 1 3 0 4 2 1 1 1 1", "1,2 3,4 5,6 7,8 9,10");
        dueWrong(2, "!POINTEMPTY");
    }

    /** "A coordinate: a number (x), at least one blank, a number (y)." */
    private static void coordinatesNeedABlank() {
        for (int blank : BLANKS) {
            Check.dueShape(fresh(), "POINT(1" + (char) blank + "-2)", "1 1", "1,-2");
        }
        dueWrong(4, "POINT(!1-2)");
        dueWrong(4, "POINT(!1+2)");
        dueWrong(4, "POINT(!1.5.5)");
        dueWrong(3, "POINT(12!)");
        dueWrong(3, "POINT(1.5!)");
        dueWrong(3, "POINT(1e5!)");
        dueWrong(3, "POINT(1!,2)");
        dueWrong(3, "POINT(1 !)");
    }

    /** "WORDS (letters, large and small alike)". */
    private static void lettersAreLargeAndSmallAlike() {
        for (int kind = 1; kind <= WORDS.length; kind++) {
            String text = WORDS[kind - 1] + " EMPTY";
            Check.dueShape(fresh(), text.toLowerCase(), kind + " 0", "");
            for (int i = 0; i < text.length(); i++) {
                String flipped = text.substring(0, i) + text.substring(i, i + 1).toLowerCase() + text.substring(i + 1);
                Check.dueShape(fresh(), flipped, kind + " 0", "");
            }
            dueWrong(2, "!" + WORDS[kind - 1].substring(1) + " EMPTY");
            dueWrong(2, "!" + WORDS[kind - 1].substring(0, WORDS[kind - 1].length() - 1) + " EMPTY");
            dueWrong(2, "!" + WORDS[kind - 1] + "x EMPTY");
            dueWrong(2, WORDS[kind - 1] + " !MPTY");
            dueWrong(2, WORDS[kind - 1] + " !EMPT");
            dueWrong(2, WORDS[kind - 1] + " !EMPTYx");
        }
    }

    private static void nothingBetweenBracketsIsWrong() {
        for (String word : WORDS) {
            dueWrong(3, word + "(!)");
            dueWrong(3, word + "( !");
        }
        dueWrong(3, "POLYGON((!))");
        dueWrong(3, "MULTIPOINT((!))");
        dueWrong(3, "MULTILINESTRING((!))");
        dueWrong(3, "MULTIPOLYGON((!))");
        dueWrong(3, "MULTIPOLYGON(((!)))");
        dueWrong(3, GC + "(POINT(!))");
    }

    /** "with commas between": none before the first, none behind the last, one between two; of a POINT none. */
    private static void commasStandBetweenTwo() {
        String[] first = {"1 2", "1 2", "(1 2)", "1 2", "(1 2)", "((1 2))", "POINT EMPTY"};
        for (int i = 0; i < WORDS.length; i++) {
            dueWrong(3, WORDS[i] + "(!," + first[i] + ")");
            dueWrong(3, WORDS[i] + "(" + first[i] + " !" + first[i] + ")");
            if (i == 0) {
                dueWrong(3, WORDS[i] + "(" + first[i] + "!,)");
            } else {
                dueWrong(3, WORDS[i] + "(" + first[i] + ",!)");
                dueWrong(3, WORDS[i] + "(" + first[i] + ",!," + first[i] + ")");
                dueWrong(3, WORDS[i] + "(" + first[i] + ",!");
            }
        }
        dueWrong(3, "POINT(1 2!,3 4)");
        dueWrong(3, "MULTIPOINT((1 2!,3 4))");
        dueWrong(3, "POLYGON((1 2,!))");
        dueWrong(3, "POLYGON((1 2 !3 4))");
    }

    /** "parts with commas between, each EMPTY, or .."; a ring, a coordinate or a collection's shape is never EMPTY alone. */
    private static void onlySomePartsMayBeEmpty() {
        Check.dueShape(fresh(), "MULTIPOINT(EMPTY,EMPTY)", "4 2 1 0 1 0", "");
        Check.dueShape(fresh(), "MULTILINESTRING(EMPTY,EMPTY)", "5 2 2 0 2 0", "");
        Check.dueShape(fresh(), "MULTIPOLYGON(EMPTY,EMPTY)", "6 2 3 0 3 0", "");
        dueWrong(3, "POINT(!EMPTY)");
        dueWrong(3, "LINESTRING(!EMPTY)");
        dueWrong(3, "LINESTRING(1 2,!EMPTY)");
        dueWrong(3, "POLYGON(!EMPTY)");
        dueWrong(3, "POLYGON((!EMPTY))");
        dueWrong(3, "MULTIPOINT((!EMPTY))");
        dueWrong(3, "MULTILINESTRING((!EMPTY))");
        dueWrong(3, "MULTIPOLYGON((!EMPTY))");
        dueWrong(3, "MULTIPOLYGON(((!EMPTY)))");
        dueWrong(2, GC + "(!EMPTY)");
        dueWrong(2, "MULTIPOINT(!POINT EMPTY)");
        dueWrong(2, "MULTIPOINT(!EMPTYS)");
    }

    /** "(for a point of MULTIPOINT also a coordinate alone)". */
    private static void coordinatesAloneAreForMultipointOnly() {
        for (String number : new String[] {"1", "+1", "1.", "01"}) {
            Check.dueShape(fresh(), "MULTIPOINT(" + number + " 2,(3 4))", "4 2 1 1 1 1", "1,2 3,4");
        }
        Check.dueShape(fresh(), "MULTIPOINT(-1 2)", "4 1 1 1", "-1,2");
        Check.dueShape(fresh(), "MULTIPOINT(.0 2)", "4 1 1 1", "0,2");
        dueWrong(3, "POLYGON(!1 2)");
        dueWrong(3, "MULTILINESTRING(!1 2)");
        dueWrong(3, "MULTIPOLYGON(!1 2)");
        dueWrong(3, "MULTIPOLYGON((!1 2))");
        dueWrong(3, GC + "(!1 2)");
        dueWrong(3, "MULTIPOINT((!(1 2)))");
    }

    /** "The text is one shape." */
    private static void theTextIsOneShape() {
        dueWrong(3, "!");
        dueWrong(3, "    !");
        dueWrong(8, "POINT EMPTY !POINT EMPTY");
        dueWrong(8, "POINT(1 2)!POINT(1 2)");
        dueWrong(8, "POINT EMPTY!,POINT EMPTY");
        dueWrong(3, "!(POINT EMPTY)");
    }
}
