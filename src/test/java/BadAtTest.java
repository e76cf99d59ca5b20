import java.util.function.Supplier;

/** Promise 10: badAt. */
public final class BadAtTest {
    private static final Check CHECK = new Check();

    public static void main(String[] args) {
        CHECK.sentence("The lowest page that is BAD", BadAtTest::lowest);
        CHECK.sentence("The lowest page that is BAD: used or not", BadAtTest::eachPage);
        CHECK.sentence("-1 if none is", BadAtTest::none);
        CHECK.sentence("-1 if none is: though one is altered", BadAtTest::alteredButNotBad);
        CHECK.sentence("badAt() changes nothing", BadAtTest::changesNothing);
        CHECK.end();
    }

    private static void lowest() {
        FormulaPages x = new FormulaPages(40);
        x.poke(39, 0, 1);
        CHECK.due("the last", x.badAt(), 39);
        x.poke(7, 0, 1);
        CHECK.due("a lower one", x.badAt(), 7);
        x.poke(20, 0, 1);
        CHECK.due("one between", x.badAt(), 7);
        x.poke(0, 63, 1);
        CHECK.due("the first", x.badAt(), 0);
        x.poke(0, 63, 1);
        x.poke(7, 0, 1);
        CHECK.due("the next", x.badAt(), 20);
        x.poke(20, 0, 1);
        x.poke(39, 0, 1);
        CHECK.due("none", x.badAt(), -1);
    }

    private static void eachPage() {
        for (int pages : new int[] {1, 40}) {
            for (int page = 0; page < pages; page++) {
                FormulaPages x = new FormulaPages(pages);
                x.poke(page, 30, 8);
                CHECK.due("badAt", x.badAt(), page);
            }
        }
    }

    private static void none() {
        CHECK.due("of a new object", new FormulaPages(1).badAt(), -1);
        CHECK.due("of a new object", new FormulaPages(40).badAt(), -1);
        CHECK.due("after acts", Make.keptAndMore().badAt(), -1);
        CHECK.due("after all splits", Make.allPages(40).badAt(), -1);
        FormulaPages x = Make.keptAndMore();
        x.poke(1, 1, 1);
        x.crash(5);
        CHECK.due("after a crash", x.badAt(), -1);
    }

    /** Page 1 is right by its SUM, so page 2 is the lowest that is BAD. */
    private static void alteredButNotBad() {
        FormulaPages x = new FormulaPages(3);
        x.poke(1, 59, 7);
        CHECK.due("altered", x.badAt(), 1);
        Make.write(x, 1, 60, Check.fourBytes(Check.sum(7)));
        CHECK.due("altered, the sum too", x.badAt(), -1);
        x.poke(2, 0, 1);
        CHECK.due("and another page", x.badAt(), 2);
    }

    private static void changesNothing() {
        Supplier<FormulaPages> fed = Check.after(Make::keptAndMore, x -> x.feed(9));
        CHECK.dueSame("badAt", Check.after(fed, x -> x.badAt()), fed);
        Supplier<FormulaPages> altered = Check.after(fed, x -> x.poke(0, 0, 1));
        CHECK.dueSame("badAt", Check.after(altered, x -> x.badAt()), altered);
    }
}
