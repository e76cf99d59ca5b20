import java.util.function.Supplier;

/** Promises 12 and 13: entry and count. */
public final class TableCountTest {
    private static final Check CHECK = new Check();

    public static void main(String[] args) {
        entriesGrowWithD();
        wrongEntries();
        countsGoWithThePuts();
        otherCounts();
        countsOfAlteredPages();
        CHECK.end();
    }

    /** Ten names of two bytes split page 0 once, and so D is 1. */
    private static FormulaPages splitOnce() {
        FormulaPages x = new FormulaPages(3);
        for (int b = 0; b < 10; b++) {
            Check.put(x, b, b, 0);
        }
        return x;
    }

    private static void entriesGrowWithD() {
        CHECK.due("entry(0) of a new object", new FormulaPages(3).entry(0), 0);
        FormulaPages x = splitOnce();
        CHECK.due("entry(0)", x.entry(0), 0);
        CHECK.due("entry(1)", x.entry(1), 1);
        x.poke(0, 0, 255);
        CHECK.due("entry(1) when a page is altered", x.entry(1), 1);
        x.crash(0);
        CHECK.due("entry(1) after a crash", Check.thrownBy(x, y -> y.entry(1)),
                "ArrayIndexOutOfBoundsException");
    }

    private static void wrongEntries() {
        Supplier<FormulaPages> fresh = () -> new FormulaPages(3);
        for (int e : new int[] {-1, 1, 31, 32, Integer.MIN_VALUE, Integer.MAX_VALUE}) {
            CHECK.dueThrow(fresh, "entry(" + e + ")", ArrayIndexOutOfBoundsException.class,
                    x -> x.entry(e));
        }
        for (int e : new int[] {-1, 2, 31, 32}) {
            CHECK.dueThrow(TableCountTest::splitOnce, "entry(" + e + ")",
                    ArrayIndexOutOfBoundsException.class, x -> x.entry(e));
        }
    }

    private static void countsGoWithThePuts() {
        FormulaPages x = splitOnce();
        dueCounts(x, 1, 2, 10, 10, 80, 3);
        Check.put(x, 77, 4, 0);
        dueCounts(x, 1, 2, 10, 11, 88, 3);
        x.feed(200);
        dueCounts(x, 1, 2, 10, 11, 88, 3);
        x.save();
        dueCounts(x, 1, 2, 10, 11, 0, 3);
        x.put(5);
        dueCounts(x, 1, 2, 11, 12, 7, 3);
        x.crash(6);
        dueCounts(x, 1, 2, 10, 11, 0, 3);
    }

    private static void dueCounts(FormulaPages x, int... due) {
        for (int what = 0; what < due.length; what++) {
            CHECK.due("count(" + what + ")", x.count(what), due[what]);
        }
    }

    private static void otherCounts() {
        for (int what : new int[] {-1, 6, 7, Integer.MIN_VALUE, Integer.MAX_VALUE}) {
            CHECK.due("count(" + what + ")", splitOnce().count(what), -1);
        }
    }

    private static void countsOfAlteredPages() {
        Supplier<FormulaPages> altered = Check.after(TableCountTest::splitOnce,
                x -> x.poke(0, 1, 9));
        CHECK.dueThrow(altered, "count(2)", IllegalStateException.class, x -> x.count(2));
        int[] due = {1, 2, 0, 10, 80, 3, -1};
        for (int what : new int[] {0, 1, 3, 4, 5, 6}) {
            CHECK.due("count(" + what + ")", altered.get().count(what), due[what]);
        }
        CHECK.due("count(-1)", altered.get().count(-1), -1);
    }
}
