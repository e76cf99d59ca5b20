import java.util.function.Supplier;

/** Promise 9: pokeJournal. */
public final class PokeJournalTest {
    private static final Check CHECK = new Check();

    public static void main(String[] args) {
        CHECK.sentence("Likewise a byte of the JOURNAL", PokeJournalTest::bytesThatAreInIt);
        CHECK.sentence("Likewise: by the same mask again it is what it was",
                PokeJournalTest::sameMaskAgain);
        CHECK.sentence("a byte of the JOURNAL, 0 .. 599", PokeJournalTest::noSuchByte);
        CHECK.sentence("Likewise: the mask isn't 1 .. 255", PokeJournalTest::wrongMasks);
        CHECK.sentence("also one that isn't in it yet, which has no consequences",
                PokeJournalTest::noConsequences);
        CHECK.sentence("what comes there is written over it", PokeJournalTest::writtenOver);
        CHECK.end();
    }

    private static Supplier<FormulaPages> fed() {
        return Check.after(Make::keptAndMore, x -> x.feed(9));
    }

    /** The first and the last that is in it; no page is altered by that. */
    private static void bytesThatAreInIt() {
        dueActs(0, 1, 10);
        dueActs(0, 255, 10);
        dueActs(7, 128, 10);
        dueActs(31, 1, 13);
        dueActs(31, 255, 13);
        FormulaPages full = Make.journalOf(600);
        int acts = full.count(3);
        full.pokeJournal(599, 1);
        CHECK.due("the last byte of all", full.crash(600), acts - 1);
    }

    private static void dueActs(int i, int mask, int acts) {
        FormulaPages x = Make.keptAndMore();
        x.pokeJournal(i, mask);
        CHECK.due("names", x.count(2), 14);
        CHECK.due("journal", x.count(4), 32);
        CHECK.due("badAt", x.badAt(), -1);
        CHECK.due("poked " + i, x.crash(32), acts);
    }

    private static void sameMaskAgain() {
        for (int i : new int[] {0, 14, 31, 32, 599}) {
            for (int mask : new int[] {1, 255}) {
                CHECK.dueSame("twice", Check.after(fed(), x -> {
                    x.pokeJournal(i, mask);
                    x.pokeJournal(i, mask);
                }), fed());
            }
        }
    }

    private static void noSuchByte() {
        for (int i : new int[] {0, 599}) {
            CHECK.due("byte " + i, Check.thrownBy(fed().get(), x -> x.pokeJournal(i, 1)),
                    "nothing");
        }
        for (int i : new int[] {-1, 600, Integer.MIN_VALUE, Integer.MAX_VALUE}) {
            for (int mask : new int[] {1, 255, 0, 256}) {
                CHECK.dueThrow(fed(), "byte " + i, ArrayIndexOutOfBoundsException.class,
                        x -> x.pokeJournal(i, mask));
            }
        }
    }

    private static void wrongMasks() {
        for (int i : new int[] {0, 31, 32, 599}) {
            for (int mask : new int[] {1, 255}) {
                CHECK.due("mask " + mask, Check.thrownBy(fed().get(), x -> x.pokeJournal(i, mask)),
                        "nothing");
            }
            for (int mask : new int[] {0, 256, -1, Integer.MIN_VALUE, Integer.MAX_VALUE}) {
                CHECK.dueThrow(fed(), "mask " + mask, IllegalArgumentException.class,
                        x -> x.pokeJournal(i, mask));
            }
        }
    }

    /** The first that isn't in it, and the last; also where it was longer ahead of a cut. */
    private static void noConsequences() {
        for (int i : new int[] {32, 33, 599}) {
            CHECK.dueSame("poked " + i, Check.after(fed(), x -> x.pokeJournal(i, 255)), fed());
        }
        Supplier<FormulaPages> cut = Check.after(fed(), x -> x.crash(16));
        CHECK.dueSame("behind a cut", Check.after(cut, x -> x.pokeJournal(16, 255)), cut);
        Supplier<FormulaPages> saved = Check.after(fed(), x -> x.save());
        CHECK.dueSame("behind a save", Check.after(saved, x -> x.pokeJournal(0, 255)), saved);
        Supplier<FormulaPages> fresh = () -> new FormulaPages(1);
        CHECK.dueSame("of a new object", Check.after(fresh, x -> x.pokeJournal(0, 1)), fresh);
    }

    private static void writtenOver() {
        Supplier<FormulaPages> one = Check.after(fed(), x -> x.put(8));
        CHECK.dueSame("poked ahead of the put", Check.after(fed(), x -> {
            for (int i = 32; i < 60; i++) {
                x.pokeJournal(i, 255);
            }
            x.put(8);
        }), one);
        FormulaPages x = one.get();
        CHECK.due("journal", x.count(4), 39);
        CHECK.due("crash", x.crash(39), 15);
        FormulaPages last = Make.journalOf(593);
        int acts = last.count(3);
        last.pokeJournal(599, 255);
        Check.put(last, 5, 9);
        CHECK.due("the last byte of all", last.crash(600), acts + 1);
    }
}
