import java.util.List;
import java.util.function.Supplier;

/** Promise 2: feed. */
public final class FeedTest {
    private static final Check CHECK = new Check();

    public static void main(String[] args) {
        twelveBytesAndNoMore();
        thirteenthByteIsNotPartOfTheName();
        wrongBytesChangeNothing();
        feedingGoesOnWhileAPageIsAltered();
        CHECK.end();
    }

    private static void twelveBytesAndNoMore() {
        FormulaPages x = new FormulaPages(1);
        for (int i = 0; i < 12; i++) {
            CHECK.due("feed " + i, x.feed(i % 2 == 0 ? 0 : 255), true);
        }
        CHECK.due("feed 12", x.feed(7), false);
        CHECK.due("feed 13", x.feed(7), false);
        CHECK.due("thirteenth, wrong", Check.thrownBy(x, y -> y.feed(256)),
                "IllegalArgumentException");
    }

    private static void thirteenthByteIsNotPartOfTheName() {
        FormulaPages x = new FormulaPages(1);
        Check.put(x, 5, 1, 2, 3, 4, 5, 6, 7, 8, 9, 10, 11, 12, 13);
        CHECK.due("record", Check.bytes(x, 0, 1, 20),
                List.of(1, 12, 1, 2, 3, 4, 5, 6, 7, 8, 9, 10, 11, 12, 0, 0, 0, 5, 0));
        CHECK.due("find", Check.find(x, 1, 2, 3, 4, 5, 6, 7, 8, 9, 10, 11, 12), 5);
        CHECK.due("has eleven", Check.has(x, 1, 2, 3, 4, 5, 6, 7, 8, 9, 10, 11), false);
    }

    private static void wrongBytesChangeNothing() {
        Supplier<FormulaPages> fed = () -> {
            FormulaPages x = new FormulaPages(2);
            Check.feed(x, 0, 255);
            return x;
        };
        for (int b : new int[] {-1, 256, Integer.MIN_VALUE, Integer.MAX_VALUE}) {
            CHECK.dueThrow(fed, "feed(" + b + ")", IllegalArgumentException.class, x -> x.feed(b));
        }
    }

    private static void feedingGoesOnWhileAPageIsAltered() {
        FormulaPages x = new FormulaPages(2);
        Check.put(x, 3, 8, 9);
        x.feed(8);
        x.poke(1, 0, 1);
        CHECK.due("feed", x.feed(9), true);
        x.poke(1, 0, 1);
        CHECK.due("find", x.find(), 3);
    }
}
