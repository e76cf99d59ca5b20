import java.util.function.Supplier;

/** Promise 13: count. */
public final class CountTest {
    private static final Check CHECK = new Check();

    public static void main(String[] args) {
        CHECK.sentence("what 0: D", CountTest::depth);
        CHECK.sentence("1: pages that are USED", CountTest::used);
        CHECK.sentence("2: names", CountTest::names);
        CHECK.sentence("3: ACTS", CountTest::acts);
        CHECK.sentence("4: the JOURNAL's length", CountTest::journal);
        CHECK.sentence("5: pages", CountTest::pages);
        CHECK.sentence("-1 for another what", CountTest::others);
        CHECK.sentence("IllegalStateException: only of 2", CountTest::altered);
        CHECK.sentence("count() changes nothing", CountTest::changesNothing);
        CHECK.end();
    }

    private static void depth() {
        for (int d = 0; d <= 5; d++) {
            FormulaPages x = Make.deep(40, d);
            CHECK.due("D", x.count(0), d);
            Check.put(x, 1, Make.ninth(6));
            CHECK.due("D after a refusal", x.count(0), d);
            x.crash(0);
            CHECK.due("D after a crash", x.count(0), 0);
        }
    }

    private static void used() {
        for (int d = 0; d <= 5; d++) {
            FormulaPages x = Make.deep(6, d);
            CHECK.due("used", x.count(1), d + 1);
            x.crash(0);
            CHECK.due("used after a crash", x.count(1), 1);
        }
        CHECK.due("all of 32", Make.allPages(32).count(1), 32);
        CHECK.due("32 of 40", Make.allPages(40).count(1), 32);
    }

    private static void names() {
        FormulaPages x = new FormulaPages(1);
        CHECK.due("none", x.count(2), 0);
        for (int b = 0; b < 9; b++) {
            Check.put(x, 1, b);
            CHECK.due("names", x.count(2), b + 1);
        }
        Check.put(x, 2, 5);
        CHECK.due("a known name", x.count(2), 9);
        Check.put(x, 2, 9);
        CHECK.due("a refused name", x.count(2), 9);
        x.feed(77);
        CHECK.due("a fed name", x.count(2), 9);
        x.crash(21);
        CHECK.due("after a crash", x.count(2), 3);
        CHECK.due("in 32 pages", Make.allPages(32).count(2), 144);
        CHECK.due("in pages that none went to", Make.deep(40, 5).count(2), 9);
    }

    private static void acts() {
        FormulaPages x = new FormulaPages(1);
        CHECK.due("none", x.count(3), 0);
        for (int i = 0; i < 12; i++) {
            Check.put(x, i, i % 9);
            CHECK.due("acts", x.count(3), i + 1);
        }
        Check.put(x, 1, 9);
        CHECK.due("refused", x.count(3), 12);
        Check.has(x, 1);
        x.save();
        CHECK.due("kept", x.count(3), 12);
        Check.put(x, 1, 1);
        CHECK.due("and one", x.count(3), 13);
        x.crash(0);
        CHECK.due("lost", x.count(3), 12);
    }

    private static void journal() {
        FormulaPages x = new FormulaPages(1);
        CHECK.due("empty", x.count(4), 0);
        Check.put(x, 1, 1);
        CHECK.due("seven more", x.count(4), 7);
        Check.put(x, 1, Make.name(12, 7));
        CHECK.due("eighteen more", x.count(4), 25);
        x.crash(24);
        CHECK.due("cut", x.count(4), 7);
        x.save();
        CHECK.due("kept", x.count(4), 0);
        CHECK.due("full", Make.journalOf(600).count(4), 600);
    }

    private static void pages() {
        for (int[] pair : new int[][] {{0, 1}, {1, 1}, {2, 2}, {39, 39}, {40, 40}, {41, 40}}) {
            CHECK.due("pages", new FormulaPages(pair[0]).count(5), pair[1]);
        }
        CHECK.due("when some are used", Make.deep(7, 5).count(5), 7);
    }

    private static void others() {
        for (int what : new int[] {-1, 6, -2, 7, 256, Integer.MIN_VALUE, Integer.MAX_VALUE}) {
            CHECK.due("count(" + what + ")", Make.keptAndMore().count(what), -1);
        }
    }

    private static void altered() {
        Supplier<FormulaPages> altered = Check.after(Make::keptAndMore, x -> {
            x.feed(9);
            x.poke(0, 1, 9);
        });
        CHECK.dueThrowAltered(altered, x -> x.poke(0, 1, 9), "count(2)",
                IllegalStateException.class, x -> x.count(2));
        FormulaPages x = altered.get();
        int[] due = {1, 2, 0, 14, 32, 3, -1};
        for (int what : new int[] {0, 1, 3, 4, 5, 6}) {
            CHECK.due("count(" + what + ")", x.count(what), due[what]);
        }
        CHECK.due("count(-1)", x.count(-1), -1);
        x.poke(0, 1, 9);
        CHECK.due("count(2)", x.count(2), 14);
    }

    private static void changesNothing() {
        Supplier<FormulaPages> fed = Check.after(Make::keptAndMore, x -> x.feed(9));
        for (int what = -1; what <= 6; what++) {
            int asked = what;
            CHECK.dueSame("count(" + what + ")", Check.after(fed, x -> x.count(asked)), fed);
        }
    }
}
