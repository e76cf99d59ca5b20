import java.util.List;
import java.util.function.Supplier;

/** Promise 4: has. */
public final class HasTest {
    private static final Check CHECK = new Check();

    public static void main(String[] args) {
        CHECK.sentence("Whether the FED name has a RECORD", HasTest::knownAndUnknownNames);
        CHECK.sentence("Whether the FED name has a RECORD: beginnings and longer names haven't",
                HasTest::nearlyTheSameName);
        CHECK.sentence("Whether the FED name has a RECORD: in split pages", HasTest::inSplitPages);
        CHECK.sentence("Whether the FED name has a RECORD: a SUM behind the last RECORD is none",
                HasTest::sumsAreNoRecords);
        CHECK.sentence("none is FED then", HasTest::noneIsFedThen);
        CHECK.sentence("none is FED then: and nothing else changes", HasTest::elseNothingChanges);
        CHECK.sentence("IllegalStateException: likewise: none is FED", HasTest::noneIsFed);
        CHECK.sentence("IllegalStateException: a page is ALTERED", HasTest::altered);
        CHECK.end();
    }

    private static void knownAndUnknownNames() {
        CHECK.due("of an empty object", Check.has(new FormulaPages(1), 0), false);
        FormulaPages x = Make.twoNames();
        CHECK.due("kept", Check.has(x, 1), true);
        CHECK.due("with the number 0", Check.has(x, 255, 0), true);
        CHECK.due("unknown", Check.has(x, 2), false);
    }

    private static void nearlyTheSameName() {
        FormulaPages x = Make.twoNames();
        CHECK.due("beginning", Check.has(x, 255), false);
        CHECK.due("longer", Check.has(x, 255, 0, 0), false);
        CHECK.due("turned round", Check.has(x, 0, 255), false);
        CHECK.due("other last byte", Check.has(x, 255, 1), false);
        CHECK.due("other first byte", Check.has(x, 254, 0), false);
    }

    private static void inSplitPages() {
        List<int[]> names = Make.namesForAllPages();
        for (int part = 0; part < 144; part += 16) {
            FormulaPages x = Make.allPages(32);
            for (int[] name : names.subList(part, part + 16)) {
                CHECK.due("known", Check.has(x, name), true);
            }
            CHECK.due("unknown", Check.has(x, 255, 255), false);
        }
    }

    /** In a full page the SUM stands where a record would be, and may read like a name's. */
    private static void sumsAreNoRecords() {
        int met = 0;
        for (int v = 0; v < 1000; v++) {
            FormulaPages x = Make.filledTo(1, 58);
            Check.put(x, v, 203, 203, 203, 203, 203, 203, 203, 203, 203, 203);
            int length = x.byteAt(0, 60);
            if (length >= 1 && length <= 3) {
                met++;
                int[] name = Model.ints(Check.bytes(x, 0, 61, 61 + length));
                CHECK.due("has", Check.has(x, name), false);
                CHECK.due("find", Check.find(x, name), 0);
            }
        }
        CHECK.due("some read so", met > 0, true);
    }

    private static void noneIsFedThen() {
        for (int b : new int[] {1, 2}) {
            FormulaPages x = Make.twoNames();
            Check.has(x, b);
            CHECK.due("has again", Check.thrownBy(x, y -> y.has()), "IllegalStateException");
            CHECK.due("the next name begins anew", Check.has(x, 255, 0), true);
        }
    }

    private static void elseNothingChanges() {
        Supplier<FormulaPages> some = Make::twoNames;
        CHECK.dueSame("known", Check.after(some, x -> Check.has(x, 1)), some);
        CHECK.dueSame("unknown", Check.after(some, x -> Check.has(x, 2)), some);
    }

    private static void noneIsFed() {
        CHECK.dueThrow(() -> new FormulaPages(1), "at first", IllegalStateException.class,
                x -> x.has());
        CHECK.dueThrow(Make::twoNames, "after acts", IllegalStateException.class, x -> x.has());
        FormulaPages x = Make.twoNames();
        x.feed(1);
        CHECK.due("one byte is fed", x.has(), true);
    }

    private static void altered() {
        Supplier<FormulaPages> altered = Check.after(Make::twoNames, x -> {
            x.feed(1);
            x.poke(2, 17, 1);
        });
        CHECK.dueThrowAltered(altered, x -> x.poke(2, 17, 1), "has", IllegalStateException.class,
                x -> x.has());
        FormulaPages x = altered.get();
        x.poke(2, 17, 1);
        CHECK.due("not any more", x.has(), true);
    }
}
