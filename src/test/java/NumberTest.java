import java.math.BigDecimal;
import java.math.RoundingMode;
import java.util.Random;

/** Promise 4, numbers: rounded exactly to the nearest that is kept, of two as near to the even one. */
final class NumberTest {
    public static void main(String[] args) {
        roundsToTheEvenOne();
        roundsTiesOfEachUnit();
        needsOneDigitInAll();
        endsBeforeWhatDoesNotGoOn();
        readsAllForms();
        readsLongNumbers();
        agreesWithBigDecimal();
        Check.finish();
    }

    private static void due(int digits, String number, int units) {
        WordShapes x = new WordShapes(digits, 1, 2);
        Check.read(x, 0, "POINT (" + number + " " + number + ")");
        Check.due(number + " as x with " + digits, x.ordinate(0, 0, 0), units);
        Check.due(number + " as y with " + digits, x.ordinate(0, 0, 1), units);
    }

    private static void roundsToTheEvenOne() {
        due(0, "0.5", 0);
        due(0, "1.5", 2);
        due(0, "2.5", 2);
        due(0, "-0.5", 0);
        due(0, "-1.5", -2);
        due(0, "-2.5", -2);
        due(0, "0.50", 0);
        due(0, "0.500000000000000000000000000001", 1);
        due(0, "0.49999999999999999999999999999", 0);
        due(0, "9.5", 10);
        due(0, "999999999.5", 1000000000);
        due(0, "1000000000.5", 1000000000);
        due(0, "-1000000000.5", -1000000000);
        due(1, ".05", 0);
        due(1, ".15", 2);
        due(1, ".051", 1);
        due(2, "1.005", 100);
        due(2, "1.015", 102);
        due(3, "-2.0005", -2000);
        due(3, "-2.0015", -2002);
        due(3, "0.0004999", 0);
    }

    /** "exactly, of two as near to the even one", in units of each size and with signs. */
    private static void roundsTiesOfEachUnit() {
        for (int digits = 0; digits < 4; digits++) {
            for (int units = 0; units < 12; units++) {
                String number = BigDecimal.valueOf(units, digits).toPlainString() + (digits == 0 ? "." : "");
                int even = units + units % 2;
                String[] behind = {"", "0", "4", "49", "4" + "9".repeat(40), "5", "500", "5" + "0".repeat(40), "5" + "0".repeat(40) + "1",
                    "51", "6", "9", "9".repeat(40)};
                int[] rounded = {units, units, units, units, units, even, even, even, units + 1, units + 1, units + 1, units + 1,
                    units + 1};
                for (int i = 0; i < behind.length; i++) {
                    due(digits, number + behind[i], rounded[i]);
                    due(digits, "-" + number + behind[i], -rounded[i]);
                }
            }
        }
    }

    /** "(at least one digit in all)", and digits behind e. */
    private static void needsOneDigitInAll() {
        for (String sign : new String[] {"", "+", "-"}) {
            int one = sign.equals("-") ? -1 : 1;
            due(0, sign + "4", 4 * one);
            due(0, sign + "4.", 4 * one);
            due(0, sign + ".4e1", 4 * one);
            due(0, sign + "4e0", 4 * one);
            due(0, sign + "4.e0", 4 * one);
            due(0, sign + "4.e-0", 4 * one);
            due(0, sign + "4.0E+00", 4 * one);
            for (String none : new String[] {".", "e1", ".e1", "4e", "4.e", ".4e", "4e+", "4E-"}) {
                int fault = (sign + none).equals("e1") ? 3 : 4;
                Check.dueFault(new WordShapes(0, 1, 2), fault, "POINT (!" + sign + none + " 2)");
                Check.dueFault(new WordShapes(0, 1, 2), fault, "POINT (1 !" + sign + none + ")");
                Check.dueFault(new WordShapes(0, 1, 2), fault, "POINT (1 !" + sign + none);
            }
        }
    }

    /** "a number ends before the first character that does not go on with it" */
    private static void endsBeforeWhatDoesNotGoOn() {
        for (String number : new String[] {"1", "-1", "1.", ".1", "1.5", "1e0", "1e-1", "1.5E+1"}) {
            for (String other : new String[] {"x", "e5.", "+", "-", "..", "E", "z1"}) {
                Check.dueFault(new WordShapes(0, 1, 2), 4, "POINT (!" + number + other + " 2)");
                Check.dueFault(new WordShapes(0, 1, 2), 4, "POINT (2 !" + number + other + ")");
            }
            for (String mark : new String[] {"(", ")", ","}) {
                Check.dueFault(new WordShapes(0, 1, 2), 3, "POINT (" + number + "!" + mark + "2)");
            }
            Check.dueFault(new WordShapes(0, 1, 2), 3, "POINT (2 " + number + "!(");
            Check.dueFault(new WordShapes(0, 1, 2), 1, "POINT (" + number + "!\u00ff 2)");
            Check.dueFault(new WordShapes(0, 1, 2), 1, "POINT (2 " + number + "!_)");
        }
    }

    private static void readsAllForms() {
        due(0, "1.", 1);
        due(0, ".5e1", 5);
        due(0, "1.e2", 100);
        due(0, "+7", 7);
        due(0, "-0", 0);
        due(0, "007", 7);
        due(0, "1e9", 1000000000);
        due(0, "-1E+9", -1000000000);
        due(0, "1e09", 1000000000);
        due(0, "5e-1", 0);
        due(0, "15e-1", 2);
        due(0, "500e-3", 0);
        due(0, "501e-3", 1);
        due(0, "5e-2", 0);
        due(3, "5e-4", 0);
        due(3, "6e-4", 1);
        due(3, "9e-5", 0);
        due(3, "1e6", 1000000000);
        due(2, "12.3456e1", 12346);
    }

    private static void readsLongNumbers() {
        due(0, "0e999999999999999999999", 0);
        due(0, "0.000e+99999", 0);
        due(0, "1e-999999999999999999999", 0);
        due(0, "9e-4294967296", 0);
        due(0, "1e-18446744073709551616", 0);
        due(0, "0." + "0".repeat(3000) + "12e3002", 12);
        due(0, "0." + "0".repeat(3000) + "125e3002", 12);
        due(0, "0." + "0".repeat(3000) + "125e3003", 125);
        due(0, "25" + "0".repeat(3000) + "e-3001", 2);
        due(0, "25" + "0".repeat(3000) + "1e-3002", 3);
        due(0, "35" + "0".repeat(3000) + "e-3001", 4);
        due(0, "0".repeat(3000) + "123", 123);
        due(0, "1" + "0".repeat(3000) + "e-2991", 1000000000);
        due(0, "2.5" + "0".repeat(3000) + "1", 3);
        due(0, "1e" + "0".repeat(3000) + "2", 100);
    }

    private static void agreesWithBigDecimal() {
        Random random = new Random(7);
        for (int digits = 0; digits < 4; digits++) {
            for (int i = 0; i < 4000; i++) {
                WordShapes x = new WordShapes(digits, 1, 2);
                String number = number(random);
                BigDecimal units = new BigDecimal(number).scaleByPowerOfTen(digits).setScale(0, RoundingMode.HALF_EVEN);
                boolean fits = units.abs().compareTo(BigDecimal.valueOf(1000000000)) <= 0;
                if (fits) {
                    Check.dueShape(x, "POINT(" + number + " 0)", "1 1", units.intValueExact() + ",0");
                } else {
                    Check.dueFault(x, 5, "POINT (!" + number + " 0)");
                }
            }
        }
    }

    private static String number(Random random) {
        StringBuilder number = new StringBuilder(random.nextInt(3) == 0 ? "-" : "");
        String from = random.nextBoolean() ? "0123456789" : "0005559";
        int whole = random.nextInt(11);
        for (int i = 0; i < whole; i++) {
            number.append(from.charAt(random.nextInt(from.length())));
        }
        if (random.nextInt(3) > 0 || whole == 0) {
            number.append('.');
            for (int i = random.nextInt(6); i >= 0; i--) {
                number.append(from.charAt(random.nextInt(from.length())));
            }
        }
        if (random.nextInt(3) == 0) {
            number.append(random.nextBoolean() ? "e" : "E").append(random.nextInt(30) - 15);
        }
        return number.toString();
    }
}
