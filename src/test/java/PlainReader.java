import java.math.BigDecimal;
import java.math.BigInteger;
import java.math.RoundingMode;
import java.util.ArrayList;
import java.util.List;
import java.util.regex.Matcher;
import java.util.regex.Pattern;

/** A second reading of the document, by recursion and with the library, that the class is compared with. */
final class PlainReader {
    private static final class Wrong extends RuntimeException {
        private static final long serialVersionUID = 1L;
    }

    private static final List<String> KINDS = List.of("POINT", "LINESTRING", "POLYGON", "MULTIPOINT", "MULTILINESTRING",
        "MULTIPOLYGON", "GEOMETRYCOLLECTION");
    private static final Pattern NUMBER = Pattern.compile("[+-]?[0-9]*(\\.[0-9]*)?([eE][+-]?[0-9]*)?");
    private static final Pattern GOOD = Pattern.compile("[+-]?([0-9]+\\.?[0-9]*|\\.[0-9]+)([eE][+-]?[0-9]+)?");

    final List<Integer> plan = new ArrayList<>();
    final List<Integer> ordinates = new ArrayList<>();
    int fault;
    int faultPlace;
    private final String text;
    private final int digits;
    private final int pointLimit;
    private final int planLimit;
    private int at;

    PlainReader(String text, int digits, int pointLimit, int planLimit) {
        this.text = text;
        this.digits = digits;
        this.pointLimit = pointLimit;
        this.planLimit = planLimit;
        try {
            shape(0);
            blanks();
            if (at < text.length()) {
                throw wrong(8, at);
            }
        } catch (Wrong e) {
            plan.clear();
            ordinates.clear();
        }
    }

    private Wrong wrong(int what, int place) {
        fault = what;
        faultPlace = place;
        return new Wrong();
    }

    private Wrong unexpected() {
        return wrong(at == text.length() || Pattern.matches("[A-Za-z0-9+.(),-]", text.substring(at, at + 1)) ? 3 : 1, at);
    }

    private void blanks() {
        while (at < text.length() && " \t\n\r".indexOf(text.charAt(at)) >= 0) {
            at++;
        }
    }

    private boolean sees(String pattern) {
        blanks();
        return at < text.length() && Pattern.matches(pattern, text.substring(at, at + 1));
    }

    private void take(String pattern) {
        if (!sees(pattern)) {
            throw unexpected();
        }
        at++;
    }

    private String word() {
        int begin = at;
        while (sees("[A-Za-z]") && (at == begin || Character.isLetter(text.charAt(at - 1)))) {
            at++;
        }
        // sees() has gone over blanks, which are not the word's.
        return text.substring(begin, at).strip().toUpperCase();
    }

    private void room(int numbers) {
        blanks();
        if (plan.size() + numbers > planLimit) {
            throw wrong(7, at);
        }
    }

    private void shape(int collections) {
        if (!sees("[A-Za-z]")) {
            throw unexpected();
        }
        int begin = at;
        int kind = KINDS.indexOf(word()) + 1;
        if (kind == 0) {
            throw wrong(2, begin);
        }
        if (kind == 7 && collections == 50) {
            throw wrong(6, begin);
        }
        body(kind, collections, false);
    }

    private void body(int kind, int collections, boolean bare) {
        room(2);
        plan.add(kind);
        plan.add(0);
        int counter = plan.size() - 1;
        if (bare && sees("[0-9+.-]")) {
            plan.set(counter, 1);
            point();
        } else if (sees("[A-Za-z]")) {
            int begin = at;
            if (!word().equals("EMPTY")) {
                throw wrong(2, begin);
            }
        } else {
            take("\\(");
            int items = 0;
            do {
                item(kind, collections);
                items++;
            } while (kind != 1 && sees(",") && at++ >= 0);
            take("\\)");
            plan.set(counter, items);
        }
    }

    private void item(int kind, int collections) {
        if (kind <= 2) {
            point();
        } else if (kind == 3) {
            ring();
        } else if (kind == 7) {
            shape(collections + 1);
        } else {
            body(kind - 3, collections, kind == 4);
        }
    }

    private void ring() {
        room(1);
        plan.add(0);
        int counter = plan.size() - 1;
        take("\\(");
        int items = 0;
        do {
            point();
            items++;
        } while (sees(",") && at++ >= 0);
        take("\\)");
        plan.set(counter, items);
    }

    private void point() {
        blanks();
        if (ordinates.size() == 2 * pointLimit) {
            throw wrong(7, at);
        }
        int x = number();
        int y = number();
        ordinates.add(x);
        ordinates.add(y);
    }

    private int number() {
        if (!sees("[0-9+.-]")) {
            throw unexpected();
        }
        Matcher matcher = NUMBER.matcher(text).region(at, text.length());
        matcher.lookingAt();
        String number = matcher.group();
        int behind = at + number.length();
        boolean glued = behind < text.length() && Pattern.matches("[A-Za-z0-9+.-]", text.substring(behind, behind + 1));
        if (!GOOD.matcher(number).matches() || glued) {
            throw wrong(4, at);
        }
        BigDecimal units = rounded(number);
        if (units.abs().compareTo(BigDecimal.valueOf(1000000000)) > 0) {
            throw wrong(5, at);
        }
        at = behind;
        return units.intValueExact();
    }

    private BigDecimal rounded(String number) {
        int e = number.toLowerCase().indexOf('e');
        BigDecimal mantissa = new BigDecimal(e < 0 ? number : number.substring(0, e));
        BigInteger exponent = e < 0 ? BigInteger.ZERO : new BigInteger(number.substring(e + 1));
        if (mantissa.signum() == 0) {
            return BigDecimal.ZERO;
        }
        int most = 100000;
        int shift = exponent.min(BigInteger.valueOf(most)).max(BigInteger.valueOf(-most)).intValueExact();
        return mantissa.scaleByPowerOfTen(shift + digits).setScale(0, RoundingMode.HALF_EVEN);
    }
}
