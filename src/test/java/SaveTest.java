import java.util.function.Supplier;

/** Promise 6: save. */
public final class SaveTest {
    private static final Check CHECK = new Check();

    public static void main(String[] args) {
        CHECK.sentence("KEEPS all", SaveTest::keepsAll);
        CHECK.sentence("KEEPS all: an empty object", SaveTest::keepsAnEmptyObject);
        CHECK.sentence("KEEPS all: 32 pages", SaveTest::keepsAllPages);
        CHECK.sentence("KEEPS all: the last save counts", SaveTest::lastSaveCounts);
        CHECK.sentence("KEEPS all: the FED name stays", SaveTest::fedNameStays);
        CHECK.sentence("how many ACTS", SaveTest::howManyActs);
        CHECK.sentence("IllegalStateException: a page is ALTERED", SaveTest::altered);
        CHECK.end();
    }

    private static void keepsAll() {
        Supplier<FormulaPages> saved = Check.after(Make::keptAndMore, x -> x.save());
        CHECK.dueSame("crash(0)", Check.after(saved, x -> x.crash(0)), saved);
        CHECK.dueSame("acts and crash(0)", Check.after(saved, x -> {
            Check.put(x, 1, 5, 0);
            Check.put(x, 1, 99, 99);
            x.crash(0);
        }), saved);
        CHECK.due("journal", saved.get().count(4), 0);
    }

    private static void keepsAnEmptyObject() {
        Supplier<FormulaPages> fresh = () -> new FormulaPages(2);
        CHECK.due("save", fresh.get().save(), 0);
        CHECK.dueSame("save", Check.after(fresh, x -> x.save()), fresh);
    }

    private static void keepsAllPages() {
        Supplier<FormulaPages> all = () -> Make.allPages(40);
        CHECK.due("save", all.get().save(), 144);
        Supplier<FormulaPages> saved = Check.after(all, x -> x.save());
        CHECK.due("crash(0)", Check.look(Check.after(saved, x -> x.crash(0))), Check.look(saved));
        CHECK.due("all but the journal", Check.look(saved).replace("144 0 40", "144 552 40"),
                Check.look(all));
    }

    private static void lastSaveCounts() {
        FormulaPages x = new FormulaPages(1);
        for (int v = 1; v <= 3; v++) {
            Check.put(x, v, 5);
            CHECK.due("save", x.save(), v);
            CHECK.due("save again", x.save(), v);
        }
        Check.put(x, 4, 5);
        CHECK.due("crash(0)", x.crash(0), 3);
        CHECK.due("find", Check.find(x, 5), 3);
    }

    private static void fedNameStays() {
        FormulaPages x = Make.keptAndMore();
        Check.feed(x, 11, 0);
        x.save();
        CHECK.due("find", x.find(), 111);
    }

    /** Known names count too, refused ones don't, and what a crash lost doesn't. */
    private static void howManyActs() {
        FormulaPages x = Make.keptAndMore();
        CHECK.due("save", x.save(), 14);
        Check.put(x, 1, 5, 0);
        CHECK.due("known", x.save(), 15);
        Check.put(x, 1, 5, 0);
        x.crash(7);
        CHECK.due("lost", x.save(), 15);
        FormulaPages full = Make.filledTo(1, 58);
        Check.put(full, 1, 9);
        CHECK.due("refused", full.save(), 4);
    }

    private static void altered() {
        Supplier<FormulaPages> altered = Check.after(Make::keptAndMore, x -> {
            x.feed(5);
            x.poke(2, 30, 4);
        });
        CHECK.dueThrowAltered(altered, x -> x.poke(2, 30, 4), "save", IllegalStateException.class,
                x -> x.save());
        FormulaPages x = altered.get();
        x.poke(2, 30, 4);
        CHECK.due("not any more", x.save(), 14);
    }
}
