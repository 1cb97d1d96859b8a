import java.math.BigDecimal;
import java.util.ArrayList;
import java.util.List;

/** A second object by the document, over the plain reader, that runs of calls are compared with. */
final class PlainShapes {
    private static final String[] KINDS = {"POINT", "LINESTRING", "POLYGON", "MULTIPOINT", "MULTILINESTRING", "MULTIPOLYGON",
        "GEOMETRYCOLLECTION"};

    private final int digits;
    private final int pointLimit;
    private final int planLimit;
    private final List<List<Integer>> plans = new ArrayList<>();
    private final List<List<Integer>> ordinates = new ArrayList<>();
    private String tape = "";
    private String result = "";
    private int fault;
    private int faultPlace;

    PlainShapes(int digits, int points, int plan) {
        this.digits = Math.floorMod(digits, 4);
        pointLimit = points < 1 ? 1 : points > 4096 ? 4096 : points;
        planLimit = plan < 2 ? 2 : plan > 4096 ? 4096 : plan;
        for (int slot = 0; slot < 4; slot++) {
            plans.add(List.of());
            ordinates.add(List.of());
        }
    }

    int feed(int... words) {
        refuse(tape.length() + 20 > 65536, new IllegalStateException());
        StringBuilder more = new StringBuilder(tape);
        for (int word : words) {
            more.append((char) (word >> 24 & 255)).append((char) (word >> 16 & 255)).append((char) (word >> 8 & 255))
                .append((char) (word & 255));
        }
        tape = more.toString();
        return tape.length();
    }

    int end(int n) {
        refuse(n < 0 || n > 20, new IllegalArgumentException());
        refuse(tape.length() < 20, new IllegalStateException());
        tape = tape.substring(0, tape.length() - 20 + n);
        return tape.length();
    }

    int read(int slot) {
        String text = tape;
        tape = "";
        mustBeSlot(slot);
        PlainReader reader = new PlainReader(text, digits, pointLimit, planLimit);
        plans.set(slot, reader.plan);
        ordinates.set(slot, reader.ordinates);
        fault = reader.fault;
        faultPlace = reader.faultPlace;
        refuse(fault != 0, new IllegalArgumentException());
        return reader.plan.get(0);
    }

    int fault(int what) {
        refuse(what != 0 && what != 1, new IndexOutOfBoundsException());
        return what == 0 ? fault : faultPlace;
    }

    int write(int slot) {
        mustBeSlot(slot);
        refuse(plans.get(slot).isEmpty(), new IllegalStateException());
        String text = shape(new ArrayList<>(plans.get(slot)), new ArrayList<>(ordinates.get(slot)));
        refuse(text.length() > 131072, new UnsupportedOperationException());
        result = text;
        return result.length();
    }

    int again() {
        tape = result.length() > 65536 ? result.substring(0, 65536) : result;
        return tape.length();
    }

    int same(int slot, int other) {
        mustBeSlot(slot);
        mustBeSlot(other);
        return plans.get(slot).equals(plans.get(other)) && ordinates.get(slot).equals(ordinates.get(other)) ? 1 : 0;
    }

    int plan(int slot, int i) {
        mustBeSlot(slot);
        refuse(i < 0 || i >= plans.get(slot).size(), new IndexOutOfBoundsException());
        return plans.get(slot).get(i);
    }

    int ordinate(int slot, int i, int what) {
        mustBeSlot(slot);
        refuse(i < 0 || i >= ordinates.get(slot).size() / 2 || what != 0 && what != 1, new IndexOutOfBoundsException());
        return ordinates.get(slot).get(2 * i + what);
    }

    int byteAt(int i) {
        refuse(i < 0 || i >= result.length(), new IndexOutOfBoundsException());
        return result.charAt(i);
    }

    int count(int slot, int what) {
        mustBeSlot(slot);
        refuse(what < 0 || what > 3, new IndexOutOfBoundsException());
        return List.of(plans.get(slot).size(), ordinates.get(slot).size() / 2, tape.length(), result.length()).get(what);
    }

    private static void mustBeSlot(int slot) {
        refuse(slot < 0 || slot > 3, new IndexOutOfBoundsException());
    }

    private static void refuse(boolean wrong, RuntimeException due) {
        if (wrong) {
            throw due;
        }
    }

    private String shape(List<Integer> plan, List<Integer> left) {
        int kind = plan.get(0);
        return KINDS[kind - 1] + " " + body(plan, left);
    }

    private String body(List<Integer> plan, List<Integer> left) {
        int kind = plan.remove(0);
        int many = plan.remove(0);
        List<String> items = new ArrayList<>();
        for (int i = 0; i < many; i++) {
            items.add(kind <= 2 ? point(left) : kind == 3 ? ring(plan.remove(0), left) : kind == 7 ? shape(plan, left) : body(plan, left));
        }
        return many == 0 ? "EMPTY" : "(" + String.join(", ", items) + ")";
    }

    private String ring(int many, List<Integer> left) {
        List<String> points = new ArrayList<>();
        for (int i = 0; i < many; i++) {
            points.add(point(left));
        }
        return "(" + String.join(", ", points) + ")";
    }

    private String point(List<Integer> left) {
        return number(left.remove(0)) + " " + number(left.remove(0));
    }

    private String number(int units) {
        return units == 0 ? "0" : BigDecimal.valueOf(units, digits).stripTrailingZeros().toPlainString();
    }
}
