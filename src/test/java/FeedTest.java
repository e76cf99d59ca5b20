import java.util.function.Supplier;

/** Promise 2: feed. */
public final class FeedTest {
    private static final Check CHECK = new Check();

    public static void main(String[] args) {
        CHECK.sentence("A byte more of the name that is FED", FeedTest::byteByByte);
        CHECK.sentence("A byte more of the name that is FED: while a page is altered",
                FeedTest::alteredPagesDoNotMatter);
        CHECK.sentence("false if it has 12", FeedTest::twelveBytesAndNoMore);
        CHECK.sentence("IllegalArgumentException: b isn't 0 .. 255", FeedTest::wrongBytes);
        CHECK.end();
    }

    /** After each number of bytes the name is what was fed till then. */
    private static void byteByByte() {
        for (int length = 1; length <= 12; length++) {
            FormulaPages x = new FormulaPages(1);
            for (int b : Make.name(length, 50)) {
                CHECK.due("feed", x.feed(b), true);
            }
            x.put(8);
            CHECK.due("record", Check.bytes(x, 0, 2, 2 + length + 5),
                    Check.record(8, Make.name(length, 50)));
        }
    }

    private static void alteredPagesDoNotMatter() {
        FormulaPages x = new FormulaPages(2);
        Check.put(x, 3, 8, 9);
        x.feed(8);
        x.poke(1, 0, 1);
        CHECK.due("feed", x.feed(9), true);
        x.poke(1, 0, 1);
        CHECK.due("find", x.find(), 3);
    }

    private static void twelveBytesAndNoMore() {
        FormulaPages x = new FormulaPages(1);
        for (int b : Make.name(11, 50)) {
            x.feed(b);
        }
        CHECK.due("the twelfth", x.feed(7), true);
        CHECK.due("the thirteenth", x.feed(8), false);
        CHECK.due("the fourteenth", x.feed(7), false);
        Supplier<FormulaPages> twelve = () -> {
            FormulaPages y = new FormulaPages(2);
            Check.feed(y, Make.name(12, 50));
            return y;
        };
        CHECK.dueSame("a byte that isn't taken", Check.after(twelve, y -> y.feed(9)), twelve);
    }

    /** With no byte fed, with some, and with twelve, where a byte would not be taken. */
    private static void wrongBytes() {
        for (int length : new int[] {0, 2, 12}) {
            Supplier<FormulaPages> fed = () -> {
                FormulaPages x = new FormulaPages(2);
                Check.feed(x, Make.name(length, 50));
                return x;
            };
            for (int b : new int[] {0, 255}) {
                CHECK.due("feed(" + b + ")", fed.get().feed(b), length < 12);
            }
            for (int b : new int[] {-1, 256, -256, Integer.MIN_VALUE, Integer.MAX_VALUE}) {
                CHECK.dueThrow(fed, "feed(" + b + ")", IllegalArgumentException.class,
                        x -> x.feed(b));
            }
        }
    }
}
