import java.util.List;
import java.util.function.Supplier;

/** Promise 12: entry. */
public final class EntryTest {
    private static final Check CHECK = new Check();

    public static void main(String[] args) {
        CHECK.sentence("The page at an entry of the TABLE", EntryTest::pagesAtEntries);
        CHECK.sentence("The page at an entry of the TABLE: while a page is altered",
                EntryTest::alteredPagesDoNotMatter);
        CHECK.sentence("ArrayIndexOutOfBoundsException: an entry that the TABLE hasn't",
                EntryTest::noSuchEntry);
        CHECK.sentence("an entry that the TABLE hasn't: as D changes", EntryTest::tableOfTheMoment);
        CHECK.sentence("entry() changes nothing", EntryTest::changesNothing);
        CHECK.end();
    }

    private static void pagesAtEntries() {
        CHECK.due("of a new object", new FormulaPages(3).entry(0), 0);
        FormulaPages x = Make.deep(40, 3);
        List<Integer> due = List.of(0, 1, 2, 1, 0, 1, 3, 1);
        for (int e = 0; e < 8; e++) {
            CHECK.due("entry(" + e + ")", x.entry(e), due.get(e));
        }
        FormulaPages all = Make.allPages(32);
        CHECK.due("32 pages at 32 entries", Check.table(all).stream().distinct().count(), 32L);
    }

    private static void alteredPagesDoNotMatter() {
        FormulaPages x = Make.deep(40, 1);
        x.poke(0, 0, 255);
        CHECK.due("entry(1)", x.entry(1), 1);
    }

    private static void noSuchEntry() {
        for (int d = 0; d <= 5; d++) {
            int depth = d;
            Supplier<FormulaPages> deep = () -> Make.deep(6, depth);
            int last = (1 << d) - 1;
            CHECK.due("entry(" + last + ")", Check.thrownBy(deep.get(), x -> x.entry(last)),
                    "nothing");
            for (int e : new int[] {-1, last + 1, 32, Integer.MIN_VALUE, Integer.MAX_VALUE}) {
                CHECK.dueThrow(deep, "entry(" + e + ")", ArrayIndexOutOfBoundsException.class,
                        x -> x.entry(e));
            }
        }
    }

    private static void tableOfTheMoment() {
        FormulaPages x = Make.eight(40);
        CHECK.due("D 0", Check.thrownBy(x, y -> y.entry(1)), "ArrayIndexOutOfBoundsException");
        Check.put(x, 1, Make.ninth(1));
        CHECK.due("D 1", x.entry(1), 1);
        CHECK.due("D 1", Check.thrownBy(x, y -> y.entry(2)), "ArrayIndexOutOfBoundsException");
        x.crash(64);
        CHECK.due("D 0 by a crash", Check.thrownBy(x, y -> y.entry(1)),
                "ArrayIndexOutOfBoundsException");
        Check.put(x, 1, Make.ninth(6));
        CHECK.due("D 0 by a refusal", Check.thrownBy(x, y -> y.entry(1)),
                "ArrayIndexOutOfBoundsException");
    }

    private static void changesNothing() {
        Supplier<FormulaPages> fed = Check.after(Make::keptAndMore, x -> x.feed(9));
        CHECK.dueSame("entry", Check.after(fed, x -> x.entry(1)), fed);
    }
}
