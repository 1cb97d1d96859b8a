import java.util.Random;

/** Texts that are right or nearly right. */
final class RandomTexts {
    private static final String[] WORDS = {"POINT", "LINESTRING", "POLYGON", "MULTIPOINT", "MULTILINESTRING", "MULTIPOLYGON",
        "GEOMETRYCOLLECTION"};
    private static final String[] NUMBERS = {"0", "1", "-2", "+3.5", ".5", "7.", "1e3", "-2.25E-1", "1e9", "1e10", "123456.7895",
        "2.5", "1e-999999", "0e99999", "-.0005"};
    private static final String[] PIECES = {"(", ")", ",", " ", "EMPTY", "POINT", "1", "-", "+", ".", "e", "#", "1 2", "(1 2)",
        "x", "\u0000", "\u00ff", "\t", "((", "))", "GEOMETRYCOLLECTION(", ", ", "1e", "_"};

    private RandomTexts() {
    }

    static String next(Random random) {
        return next(random, 3, random.nextInt(3));
    }

    static String next(Random random, int depth, int changes) {
        StringBuilder text = new StringBuilder();
        shape(random, text, depth);
        for (int change = changes; change > 0; change--) {
            spoil(random, text);
        }
        return text.toString();
    }

    private static String pick(Random random, String[] from) {
        return from[random.nextInt(from.length)];
    }

    private static void spoil(Random random, StringBuilder text) {
        int at = random.nextInt(text.length() + 1);
        switch (random.nextInt(4)) {
            case 0:
                text.setLength(at);
                break;
            case 1:
                text.delete(at, Math.min(text.length(), at + 1 + random.nextInt(2)));
                break;
            case 2:
                text.insert(at, pick(random, PIECES));
                break;
            default:
                text.replace(at, Math.min(text.length(), at + 1), pick(random, PIECES));
                break;
        }
    }

    private static void blanks(Random random, StringBuilder text) {
        for (int i = random.nextInt(8) - 5; i > 0; i--) {
            text.append(" \t\n\r".charAt(random.nextInt(4)));
        }
    }

    private static void mark(Random random, StringBuilder text, String mark) {
        blanks(random, text);
        text.append(mark);
        blanks(random, text);
    }

    private static void shape(Random random, StringBuilder text, int depth) {
        int kind = 1 + random.nextInt(depth > 0 ? 7 : 6);
        String word = WORDS[kind - 1];
        mark(random, text, random.nextInt(4) == 0 ? word.toLowerCase() : word);
        body(random, text, kind, depth);
    }

    private static void body(Random random, StringBuilder text, int kind, int depth) {
        if (random.nextInt(6) == 0) {
            text.append(' ');
            mark(random, text, random.nextInt(4) == 0 ? "Empty" : "EMPTY");
            return;
        }
        items(random, text, kind, depth);
    }

    private static void items(Random random, StringBuilder text, int kind, int depth) {
        mark(random, text, "(");
        int more = kind == 1 ? 0 : random.nextInt(4);
        for (int i = 0; i <= more; i++) {
            if (i > 0) {
                mark(random, text, ",");
            }
            if (kind <= 2 || kind == 4 && random.nextInt(3) == 0) {
                text.append(pick(random, NUMBERS)).append(' ');
                blanks(random, text);
                text.append(pick(random, NUMBERS));
            } else if (kind == 3) {
                items(random, text, 2, depth);
            } else if (kind == 7) {
                shape(random, text, depth - 1);
            } else {
                body(random, text, kind - 3, depth);
            }
        }
        mark(random, text, ")");
    }
}
