import java.util.Random;

/** Many texts, right and nearly right, compared with the plain reader; what is right is read again as written. */
final class RandomTextsTest {
    private static int right = 0;

    public static void main(String[] args) {
        Random random = new Random(20261115);
        for (int i = 0; i < 20000; i++) {
            int digits = random.nextInt(4);
            int points = random.nextInt(3) == 0 ? 1 + random.nextInt(6) : 100;
            int plan = random.nextInt(3) == 0 ? 2 + random.nextInt(12) : 300;
            compare(RandomTexts.next(random), digits, points, plan);
        }
        Check.due("enough texts are right", right > 3000 ? 1 : 0, 1);
        Check.finish();
    }

    private static void compare(String text, int digits, int points, int plan) {
        PlainReader want = new PlainReader(text, digits, points, plan);
        WordShapes x = new WordShapes(digits, points, plan);
        Check.feed(x, text);
        boolean threw = false;
        try {
            Check.due("kind of " + text, x.read(0), want.plan.isEmpty() ? 0 : want.plan.get(0));
        } catch (IllegalArgumentException e) {
            threw = true;
        }
        String what = "'" + text + "' with " + digits + " " + points + " " + plan;
        Check.due("throws of " + what, threw ? 1 : 0, want.fault == 0 ? 0 : 1);
        Check.due("fault of " + what, x.fault(0), want.fault);
        Check.due("place of " + what, x.fault(1), want.faultPlace);
        Check.due("numbers of " + what, x.count(0, 0), want.plan.size());
        Check.due("points of " + what, x.count(0, 1), want.ordinates.size() / 2);
        for (int i = 0; i < want.plan.size(); i++) {
            Check.due("plan of " + what, x.plan(0, i), want.plan.get(i));
        }
        for (int i = 0; i < want.ordinates.size(); i++) {
            Check.due("ordinate of " + what, x.ordinate(0, i / 2, i % 2), want.ordinates.get(i));
        }
        if (want.fault == 0) {
            right++;
            Check.due("again of " + what, x.write(0), x.again());
            Check.due("kind again of " + what, x.read(3), want.plan.get(0));
            Check.due("same of " + what, x.same(0, 3) ? 1 : 0, 1);
        }
    }
}
