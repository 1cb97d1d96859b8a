/** README.md's example of use, with the answers that it tells. */
final class UseTest {
    public static void main(String[] args) {
        WordShapes x = new WordShapes(3, 4096, 4096);
        Check.due("feed", x.feed(0x504F494E, 0x54202831, 0x2E35202D, 0x322E3030, 0x30352900), 20);
        Check.due("end(19)", x.end(19), 19);
        Check.due("read(0)", x.read(0), 1);
        Check.due("x of the point", x.ordinate(0, 0, 0), 1500);
        Check.due("y of the point", x.ordinate(0, 0, 1), -2000);
        Check.due("write(0)", x.write(0), 14);
        Check.due("the result", Check.written(x, 0), "POINT (1.5 -2)");
        Check.due("again()", x.again(), 14);
        Check.due("read(1)", x.read(1), 1);
        Check.due("same(0, 1)", x.same(0, 1) ? 1 : 0, 1);

        Check.due("feed of a text that is wrong", x.feed(0x504F494E, 0x54202831, 0x20320000, 0, 0), 20);
        Check.due("end(10)", x.end(10), 10);
        Check.dueThrows("read(1) of it", IllegalArgumentException.class, () -> x.read(1));
        Check.due("fault(0)", x.fault(0), 3);
        Check.due("fault(1)", x.fault(1), 10);
        Check.due("numbers in slot 1", x.count(1, 0), 0);
        Check.finish();
    }
}
