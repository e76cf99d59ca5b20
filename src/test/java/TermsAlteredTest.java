import java.util.List;
import java.util.function.Consumer;
import java.util.function.Supplier;

/** Terms: altered and bad pages, and what the exceptions mean. */
public final class TermsAlteredTest {
    private static final Check CHECK = new Check();

    public static void main(String[] args) {
        CHECK.sentence("A page is ALTERED if some byte of it isn't what was put there",
                TermsAlteredTest::eachByteOfEachPage);
        CHECK.sentence("A page is ALTERED if some byte of it isn't what was put there: none if each"
                + " is again", TermsAlteredTest::notAlteredAgain);
        CHECK.sentence("A page is ALTERED if some byte of it isn't what was put there: not by its"
                + " SUM", TermsAlteredTest::alteredWithARightSum);
        CHECK.sentence("it is BAD if the SUM of its bytes 0 .. 59 isn't what its last four tell",
                TermsAlteredTest::badByEachByte);
        CHECK.sentence("ArrayIndexOutOfBoundsException: no such page, byte",
                TermsAlteredTest::noSuchPageOrByte);
        CHECK.sentence("IllegalStateException: a page is ALTERED", TermsAlteredTest::whoThrows);
        CHECK.sentence("IllegalStateException: a page is ALTERED: not of the other calls",
                TermsAlteredTest::whoDoesNotThrow);
        CHECK.sentence("Of several the one that stands first behind \"throws\" is thrown",
                TermsAlteredTest::firstBehindThrows);
        CHECK.sentence("is thrown; nothing changes", TermsAlteredTest::nothingChanges);
        CHECK.end();
    }

    /** Three pages, two of them USED, something kept, something in the journal, a name fed. */
    private static FormulaPages some() {
        FormulaPages x = Make.deep(3, 1);
        x.save();
        Check.put(x, 5, 65, 66);
        Check.put(x, 6, 255, 255);
        Check.feed(x, 255);
        return x;
    }

    private static Supplier<FormulaPages> poked(int page, int i, int mask) {
        return Check.after(TermsAlteredTest::some, x -> x.poke(page, i, mask));
    }

    private static void eachByteOfEachPage() {
        for (int page = 0; page < 3; page++) {
            for (int i = 0; i < 64; i++) {
                int mask = 1 << (i + page) % 8;
                FormulaPages x = poked(page, i, mask).get();
                String call = "page " + page + ", byte " + i;
                CHECK.due(call, Check.thrownBy(x, y -> y.count(2)), "IllegalStateException");
                x.poke(page, i, mask);
                CHECK.due(call + " again", Check.thrownBy(x, y -> y.count(2)), "nothing");
            }
        }
    }

    private static void notAlteredAgain() {
        dueNotAltered(new int[][] {{0, 5, 255}, {0, 5, 255}});
        dueNotAltered(new int[][] {{0, 5, 1}, {0, 5, 2}, {0, 5, 3}});
        dueNotAltered(new int[][] {{2, 63, 128}, {0, 0, 1}, {2, 63, 128}, {0, 0, 1}});
        dueNotAltered(new int[][] {{1, 1, 1}, {1, 1, 1}, {1, 1, 1}, {1, 1, 1}});
    }

    /** All the pokes leave it as it was, and each but the last leaves a page altered or not. */
    private static void dueNotAltered(int[][] pokes) {
        Consumer<FormulaPages> all = x -> {
            for (int[] poke : pokes) {
                x.poke(poke[0], poke[1], poke[2]);
            }
        };
        CHECK.dueSame("all pokes", Check.after(TermsAlteredTest::some, all),
                TermsAlteredTest::some);
        FormulaPages x = some();
        for (int k = 0; k < pokes.length - 1; k++) {
            x.poke(pokes[k][0], pokes[k][1], pokes[k][2]);
        }
        CHECK.due("all but one", Check.thrownBy(x, y -> y.save()), "IllegalStateException");
        CHECK.due("all but one and crash", x.crash(16), 11);
        CHECK.due("none", Check.thrownBy(x, y -> y.save()), "nothing");
    }

    private static void alteredWithARightSum() {
        Supplier<FormulaPages> hidden = Check.after(TermsAlteredTest::some, x -> {
            Make.write(x, 2, 59, List.of(7));
            Make.write(x, 2, 60, Check.fourBytes(Check.sum(7)));
        });
        CHECK.due("badAt", hidden.get().badAt(), -1);
        CHECK.due("count(2)", Check.thrownBy(hidden.get(), y -> y.count(2)),
                "IllegalStateException");
        CHECK.due("put", Check.thrownBy(hidden.get(), y -> y.put(1)), "IllegalStateException");
    }

    private static void badByEachByte() {
        CHECK.due("none", some().badAt(), -1);
        for (int page = 0; page < 3; page++) {
            for (int i = 0; i < 64; i++) {
                for (int mask : new int[] {1, 128, 255}) {
                    CHECK.due("page " + page + ", byte " + i, poked(page, i, mask).get().badAt(),
                            page);
                }
            }
        }
    }

    private static void noSuchPageOrByte() {
        dueThere("byteAt(2, 63)", x -> x.byteAt(2, 63));
        dueThere("poke(2, 63, 1)", x -> x.poke(2, 63, 1));
        dueThere("pokeJournal(599, 1)", x -> x.pokeJournal(599, 1));
        dueThere("entry(1)", x -> x.entry(1));
        dueNotThere("byteAt(3, 63)", x -> x.byteAt(3, 63));
        dueNotThere("byteAt(2, 64)", x -> x.byteAt(2, 64));
        dueNotThere("byteAt(-1, 0)", x -> x.byteAt(-1, 0));
        dueNotThere("byteAt(0, -1)", x -> x.byteAt(0, -1));
        dueNotThere("poke(3, 63, 1)", x -> x.poke(3, 63, 1));
        dueNotThere("poke(2, 64, 1)", x -> x.poke(2, 64, 1));
        dueNotThere("poke(-1, 0, 1)", x -> x.poke(-1, 0, 1));
        dueNotThere("poke(0, -1, 1)", x -> x.poke(0, -1, 1));
        dueNotThere("pokeJournal(600, 1)", x -> x.pokeJournal(600, 1));
        dueNotThere("pokeJournal(-1, 1)", x -> x.pokeJournal(-1, 1));
        dueNotThere("entry(2)", x -> x.entry(2));
        dueNotThere("entry(-1)", x -> x.entry(-1));
    }

    private static void dueThere(String call, Consumer<FormulaPages> run) {
        CHECK.due(call, Check.thrownBy(some(), run), "nothing");
        CHECK.due(call + ", altered", Check.thrownBy(poked(0, 5, 1).get(), run), "nothing");
    }

    private static void dueNotThere(String call, Consumer<FormulaPages> run) {
        CHECK.dueThrow(TermsAlteredTest::some, call, ArrayIndexOutOfBoundsException.class, run);
        CHECK.dueThrowAltered(poked(0, 5, 1), x -> x.poke(0, 5, 1), call,
                ArrayIndexOutOfBoundsException.class, run);
    }

    /** By a page that is USED, by one that isn't, and by a byte of a SUM. */
    private static void whoThrows() {
        for (int[] at : new int[][] {{0, 5}, {1, 0}, {2, 30}, {0, 63}}) {
            Supplier<FormulaPages> altered = poked(at[0], at[1], 4);
            Consumer<FormulaPages> mend = x -> x.poke(at[0], at[1], 4);
            Class<?> want = IllegalStateException.class;
            CHECK.dueThrowAltered(altered, mend, "put", want, x -> x.put(1));
            CHECK.dueThrowAltered(altered, mend, "has", want, x -> x.has());
            CHECK.dueThrowAltered(altered, mend, "find", want, x -> x.find());
            CHECK.dueThrowAltered(altered, mend, "save", want, x -> x.save());
            CHECK.dueThrowAltered(altered, mend, "count(2)", want, x -> x.count(2));
        }
    }

    private static void whoDoesNotThrow() {
        FormulaPages x = poked(0, 5, 1).get();
        CHECK.due("feed", x.feed(255), true);
        CHECK.due("badAt", x.badAt(), 0);
        CHECK.due("byteAt", x.byteAt(2, 0), 0);
        CHECK.due("entry", x.entry(1), 1);
        int[] due = {1, 2, 0, 11, 16, 3, -1};
        for (int what : new int[] {0, 1, 3, 4, 5, 6}) {
            CHECK.due("count(" + what + ")", x.count(what), due[what]);
        }
        x.pokeJournal(599, 1);
        x.poke(0, 5, 1);
        CHECK.due("find", x.find(), 6);
        CHECK.due("crash", poked(0, 5, 1).get().crash(16), 11);
    }

    private static void firstBehindThrows() {
        for (int mask : new int[] {0, -1, 256}) {
            dueNotThere("poke(3, 0, " + mask + ")", x -> x.poke(3, 0, mask));
            dueNotThere("poke(0, 64, " + mask + ")", x -> x.poke(0, 64, mask));
            dueNotThere("poke(-1, -1, " + mask + ")", x -> x.poke(-1, -1, mask));
            dueNotThere("pokeJournal(600, " + mask + ")", x -> x.pokeJournal(600, mask));
            dueNotThere("pokeJournal(-1, " + mask + ")", x -> x.pokeJournal(-1, mask));
        }
    }

    /** Every call that can throw, one behind the other, on an object that has something of all. */
    private static void nothingChanges() {
        Supplier<FormulaPages> altered = Check.after(TermsAlteredTest::some, x -> {
            x.pokeJournal(9, 1);
            x.poke(0, 5, 1);
        });
        Consumer<FormulaPages> mend = x -> x.poke(0, 5, 1);
        List<Consumer<FormulaPages>> calls = List.of(x -> x.feed(256), x -> x.put(1),
                x -> x.has(), x -> x.find(), x -> x.save(), x -> x.crash(17),
                x -> x.poke(3, 5, 1), x -> x.poke(0, 5, 256), x -> x.pokeJournal(600, 1),
                x -> x.pokeJournal(9, 0), x -> x.byteAt(0, 64), x -> x.entry(2),
                x -> x.count(2));
        Consumer<FormulaPages> all = x -> {
            for (Consumer<FormulaPages> call : calls) {
                CHECK.due("a call throws", Check.thrownBy(x, call).equals("nothing"), false);
            }
        };
        CHECK.dueSame("all calls", Check.after(altered, all), altered);
        CHECK.dueSame("all calls, mended", Check.after(Check.after(altered, all), mend),
                Check.after(altered, mend));
    }
}
