import java.util.List;
import java.util.function.Supplier;

/** Promise 5: find. */
public final class FindTest {
    private static final Check CHECK = new Check();

    public static void main(String[] args) {
        CHECK.sentence("The FED name's number", FindTest::numbersOfKnownNames);
        CHECK.sentence("The FED name's number: in split pages", FindTest::inSplitPages);
        CHECK.sentence("0 if it has no RECORD", FindTest::zeroIfUnknown);
        CHECK.sentence("none is FED then", FindTest::noneIsFedThen);
        CHECK.sentence("none is FED then: and nothing else changes", FindTest::elseNothingChanges);
        CHECK.sentence("IllegalStateException: likewise: none is FED", FindTest::noneIsFed);
        CHECK.sentence("IllegalStateException: a page is ALTERED", FindTest::altered);
        CHECK.end();
    }

    private static void numbersOfKnownNames() {
        int[] numbers = {0, 1, -1, Integer.MAX_VALUE, Integer.MIN_VALUE, 0x01020304};
        FormulaPages x = new FormulaPages(1);
        for (int i = 0; i < numbers.length; i++) {
            Check.put(x, numbers[i], i);
        }
        for (int i = 0; i < numbers.length; i++) {
            CHECK.due("find", Check.find(x, i), numbers[i]);
        }
        Check.put(x, 77, 4);
        CHECK.due("another number", Check.find(x, 4), 77);
        CHECK.due("its neighbour's", Check.find(x, 3), Integer.MAX_VALUE);
    }

    private static void inSplitPages() {
        List<int[]> names = Make.namesWithBits(0, 0, 65536);
        FormulaPages x = new FormulaPages(40);
        for (int k = 0; k < 70; k++) {
            CHECK.due("put", Check.put(x, k * 1000003 + 1, names.get(k * 256)), k);
        }
        CHECK.due("split", x.count(1) > 8, true);
        for (int k = 0; k < 70; k++) {
            CHECK.due("find", Check.find(x, names.get(k * 256)), k * 1000003 + 1);
        }
    }

    private static void zeroIfUnknown() {
        CHECK.due("of an empty object", Check.find(new FormulaPages(1), 0), 0);
        FormulaPages x = new FormulaPages(1);
        Check.put(x, 9, 7, 0);
        CHECK.due("unknown", Check.find(x, 8), 0);
        CHECK.due("beginning", Check.find(x, 7), 0);
        CHECK.due("longer", Check.find(x, 7, 0, 0), 0);
        CHECK.due("other last byte", Check.find(x, 7, 1), 0);
        CHECK.due("known", Check.find(x, 7, 0), 9);
    }

    private static void noneIsFedThen() {
        for (int b : new int[] {1, 2}) {
            FormulaPages x = Make.twoNames();
            Check.find(x, b);
            CHECK.due("find again", Check.thrownBy(x, y -> y.find()), "IllegalStateException");
            CHECK.due("the next name begins anew", Check.find(x, 1), -5);
        }
    }

    private static void elseNothingChanges() {
        Supplier<FormulaPages> some = Make::twoNames;
        CHECK.dueSame("known", Check.after(some, x -> Check.find(x, 1)), some);
        CHECK.dueSame("unknown", Check.after(some, x -> Check.find(x, 2)), some);
    }

    private static void noneIsFed() {
        CHECK.dueThrow(() -> new FormulaPages(1), "at first", IllegalStateException.class,
                x -> x.find());
        CHECK.dueThrow(Make::twoNames, "after acts", IllegalStateException.class, x -> x.find());
        FormulaPages x = Make.twoNames();
        x.feed(1);
        CHECK.due("one byte is fed", x.find(), -5);
    }

    private static void altered() {
        Supplier<FormulaPages> altered = Check.after(Make::twoNames, x -> {
            x.feed(1);
            x.poke(0, 63, 128);
        });
        CHECK.dueThrowAltered(altered, x -> x.poke(0, 63, 128), "find",
                IllegalStateException.class, x -> x.find());
        FormulaPages x = altered.get();
        x.poke(0, 63, 128);
        CHECK.due("not any more", x.find(), -5);
    }
}
