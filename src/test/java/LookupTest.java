import java.util.function.Supplier;

/** Promises 4 and 5: has and find. */
public final class LookupTest {
    private static final Check CHECK = new Check();

    public static void main(String[] args) {
        knownAndUnknownNames();
        noNameIsFedThen();
        beginningsAndLongerNamesAreOthers();
        acrossSplitPages();
        looksChangeNothingElse();
        wrongStates();
        CHECK.end();
    }

    private static void knownAndUnknownNames() {
        FormulaPages x = new FormulaPages(3);
        Check.put(x, -123456789, 0);
        Check.put(x, 0, 255, 255);
        CHECK.due("has", Check.has(x, 0), true);
        CHECK.due("has of number 0", Check.has(x, 255, 255), true);
        CHECK.due("has unknown", Check.has(x, 1), false);
        CHECK.due("find", Check.find(x, 0), -123456789);
        CHECK.due("find of number 0", Check.find(x, 255, 255), 0);
        CHECK.due("find unknown", Check.find(x, 1), 0);
    }

    private static void noNameIsFedThen() {
        for (int b = 0; b < 2; b++) {
            FormulaPages x = new FormulaPages(3);
            Check.put(x, 5, 0);
            Check.has(x, b);
            CHECK.due("has has", Check.thrownBy(x, y -> y.has()), "IllegalStateException");
            Check.find(x, b);
            CHECK.due("find find", Check.thrownBy(x, y -> y.find()), "IllegalStateException");
        }
    }

    private static void beginningsAndLongerNamesAreOthers() {
        FormulaPages x = new FormulaPages(3);
        Check.put(x, 1, 7, 0);
        CHECK.due("has 7", Check.has(x, 7), false);
        CHECK.due("has 7 0 0", Check.has(x, 7, 0, 0), false);
        CHECK.due("has 0 7", Check.has(x, 0, 7), false);
        Check.put(x, 2, 7);
        Check.put(x, 3, 7, 0, 0);
        CHECK.due("find 7 0", Check.find(x, 7, 0), 1);
        CHECK.due("find 7", Check.find(x, 7), 2);
        CHECK.due("find 7 0 0", Check.find(x, 7, 0, 0), 3);
    }

    private static void acrossSplitPages() {
        FormulaPages found = manyNames();
        FormulaPages had = manyNames();
        CHECK.due("split", found.count(1) > 8, true);
        for (int b = 0; b < 70; b++) {
            CHECK.due("find " + b, Check.find(found, b, 0), b * 1000003);
            CHECK.due("has " + b, Check.has(had, b, 0), true);
        }
        CHECK.due("has 70", Check.has(had, 70, 0), false);
        CHECK.due("find 70", Check.find(found, 70, 0), 0);
    }

    private static FormulaPages manyNames() {
        FormulaPages x = new FormulaPages(40);
        for (int b = 0; b < 70; b++) {
            Check.put(x, b * 1000003, b, 0);
        }
        return x;
    }

    private static void looksChangeNothingElse() {
        Supplier<FormulaPages> some = LookupTest::some;
        CHECK.due("has", Check.picture(Check.after(some, x -> Check.has(x, 2))),
                Check.picture(some));
        CHECK.due("find", Check.picture(Check.after(some, x -> Check.find(x, 2))),
                Check.picture(some));
    }

    private static FormulaPages some() {
        FormulaPages x = new FormulaPages(3);
        Check.put(x, 1, 1);
        x.save();
        Check.put(x, 2, 2);
        return x;
    }

    private static void wrongStates() {
        CHECK.dueThrow(LookupTest::some, "has", IllegalStateException.class, x -> x.has());
        CHECK.dueThrow(LookupTest::some, "find", IllegalStateException.class, x -> x.find());
        Supplier<FormulaPages> altered = () -> {
            FormulaPages x = some();
            x.feed(2);
            x.poke(2, 17, 1);
            return x;
        };
        CHECK.dueThrow(altered, "has", IllegalStateException.class, x -> x.has());
        CHECK.dueThrow(altered, "find", IllegalStateException.class, x -> x.find());
        FormulaPages x = altered.get();
        Check.thrownBy(x, y -> y.has());
        Check.thrownBy(x, y -> y.find());
        x.poke(2, 17, 1);
        CHECK.due("the fed name stayed", x.find(), 2);
    }
}
