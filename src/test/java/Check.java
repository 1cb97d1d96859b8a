import java.nio.charset.StandardCharsets;

/** What the tests share: feeding texts, comparing answers, ending with the exit code that is due. */
final class Check {
    interface Call {
        long answer();
    }

    private static int asked = 0;
    private static int wrong = 0;

    private Check() {
    }

    static void due(String what, long got, long want) {
        asked++;
        if (got != want) {
            tell(what + " answered " + got + ", due is " + want);
        }
    }

    static void due(String what, String got, String want) {
        asked++;
        if (!got.equals(want)) {
            tell(what + " answered '" + got + "', due is '" + want + "'");
        }
    }

    static void dueThrows(String what, Class<? extends RuntimeException> want, Call call) {
        asked++;
        try {
            tell(what + " answered " + call.answer() + ", due is " + want.getSimpleName());
        } catch (RuntimeException e) {
            if (e.getClass() != want) {
                tell(what + " threw " + e.getClass().getSimpleName() + ", due is " + want.getSimpleName());
            }
        }
    }

    private static void tell(String line) {
        wrong++;
        System.out.println(line);
    }

    static void finish() {
        System.out.println(asked + " answers, " + wrong + " not as due");
        if (wrong != 0 || asked == 0) {
            System.exit(1);
        }
    }

    static byte[] bytes(String text) {
        return text.getBytes(StandardCharsets.ISO_8859_1);
    }

    /** The odd bytes first, so that what does not go beyond the tape's limit can always be fed. */
    static void feed(WordShapes x, String text) {
        byte[] bytes = bytes(text);
        int odd = bytes.length % 20;
        if (odd != 0) {
            feedTwenty(x, bytes, 0);
            x.end(odd);
        }
        for (int i = odd; i < bytes.length; i += 20) {
            feedTwenty(x, bytes, i);
        }
    }

    private static void feedTwenty(WordShapes x, byte[] bytes, int i) {
        x.feed(four(bytes, i), four(bytes, i + 4), four(bytes, i + 8), four(bytes, i + 12), four(bytes, i + 16));
    }

    private static int four(byte[] bytes, int from) {
        int word = 0;
        for (int i = from; i < from + 4; i++) {
            word = word << 8 | (i < bytes.length ? bytes[i] & 255 : 0);
        }
        return word;
    }

    static int read(WordShapes x, int slot, String text) {
        feed(x, text);
        return x.read(slot);
    }

    static String written(WordShapes x, int slot) {
        int length = x.write(slot);
        StringBuilder text = new StringBuilder();
        for (int i = 0; i < length; i++) {
            text.append((char) x.byteAt(i));
        }
        return text.toString();
    }

    static String planOf(WordShapes x, int slot) {
        StringBuilder plan = new StringBuilder();
        int numbers = x.count(slot, 0);
        for (int i = 0; i < numbers; i++) {
            plan.append(i == 0 ? "" : " ").append(x.plan(slot, i));
        }
        return plan.toString();
    }

    static String pointsOf(WordShapes x, int slot) {
        StringBuilder points = new StringBuilder();
        int many = x.count(slot, 1);
        for (int i = 0; i < many; i++) {
            points.append(i == 0 ? "" : " ").append(x.ordinate(slot, i, 0)).append(",").append(x.ordinate(slot, i, 1));
        }
        return points.toString();
    }

    /** A text that is right: what it is written as, its plan and its points. */
    static void dueShape(WordShapes x, String text, String plan, String points) {
        due("kind of " + text, read(x, 0, text), plan.charAt(0) - '0');
        due("plan of " + text, planOf(x, 0), plan);
        due("points of " + text, pointsOf(x, 0), points);
        due("fault(0) of " + text, x.fault(0), 0);
        due("fault(1) of " + text, x.fault(1), 0);
    }

    /** A text that is wrong, its place told by a '!' that is taken out of it. */
    static void dueFault(WordShapes x, int fault, String marked) {
        int place = marked.indexOf('!');
        dueFault(x, fault, place, marked.substring(0, place) + marked.substring(place + 1));
    }

    static void dueFault(WordShapes x, int fault, int place, String text) {
        dueThrows("read of '" + text + "'", IllegalArgumentException.class, () -> read(x, 0, text));
        due("fault(0) of '" + text + "'", x.fault(0), fault);
        due("fault(1) of '" + text + "'", x.fault(1), place);
    }
}
