import java.util.ArrayList;
import java.util.List;
import java.util.function.Supplier;

/** Promise 7: crash. */
public final class CrashTest {
    private static final Check CHECK = new Check();

    public static void main(String[] args) {
        CHECK.sentence("All is lost but what is KEPT and the first bytes of the JOURNAL",
                CrashTest::keptAndTheFirstBytes);
        CHECK.sentence("pages, TABLE, ACTS become as KEPT", CrashTest::asKept);
        CHECK.sentence("pages become as KEPT: altered ones too", CrashTest::alteredPages);
        CHECK.sentence("then the names of the JOURNAL are PUT again", CrashTest::putAgain);
        CHECK.sentence("the names of the JOURNAL are PUT again: a full one",
                CrashTest::fullJournal);
        CHECK.sentence("as long as one is whole in it", CrashTest::wholeActsOnly);
        CHECK.sentence("its length being 1 .. 12", CrashTest::lengths);
        CHECK.sentence("its last byte is right", CrashTest::lastByte);
        CHECK.sentence("its last byte is right: though the number isn't what was put",
                CrashTest::lastByteOfANumber);
        CHECK.sentence("and it isn't REFUSED: for pages", CrashTest::refusedForPages);
        CHECK.sentence("and it isn't REFUSED: for D", CrashTest::refusedForDepth);
        CHECK.sentence("what is behind that goes from it", CrashTest::whatIsBehindGoes);
        CHECK.sentence("how many ACTS", CrashTest::howManyActs);
        CHECK.sentence("No name is FED", CrashTest::noNameIsFed);
        CHECK.sentence("IllegalArgumentException: kept isn't 0 .. the JOURNAL's length",
                CrashTest::wrongLengths);
        CHECK.end();
    }

    private static void keptAndTheFirstBytes() {
        for (int kept = 0; kept <= 32; kept++) {
            FormulaPages x = Make.keptAndMore();
            CHECK.due("crash(" + kept + ")", x.crash(kept), 10 + kept / 8);
            CHECK.due("acts", x.count(3), 10 + kept / 8);
            CHECK.due("journal", x.count(4), kept / 8 * 8);
            CHECK.due("names", x.count(2), 10 + kept / 8);
            for (int b = 0; b < 14; b++) {
                CHECK.due("find " + b, Check.find(x, b, 0), b < 10 + kept / 8 ? b + 100 : 0);
            }
        }
        Supplier<FormulaPages> all = Make::keptAndMore;
        CHECK.dueSame("all of it", Check.after(all, x -> x.crash(32)), all);
    }

    /** Page 1 of DEPTH 1 lies at two of the four entries that are kept, and splits after it. */
    private static void asKept() {
        FormulaPages x = new FormulaPages(9);
        Check.putAll(x, 1, Make.namesWithBits(0, 2, 5));
        Check.putAll(x, 1, Make.namesWithBits(2, 2, 5));
        x.save();
        Check.putAll(x, 1, Make.namesWithBits(1, 2, 5));
        Check.putAll(x, 1, Make.namesWithBits(3, 2, 5));
        CHECK.due("table", Check.table(x), List.of(0, 1, 2, 3));
        CHECK.due("crash(0)", x.crash(0), 10);
        CHECK.due("table", Check.table(x), List.of(0, 1, 2, 1));
        CHECK.due("used", x.count(1), 3);
        Check.putAll(x, 1, Make.namesWithBits(1, 2, 5));
        Check.putAll(x, 1, Make.namesWithBits(3, 2, 5));
        CHECK.due("table", Check.table(x), List.of(0, 1, 2, 3));
        Supplier<FormulaPages> fresh = () -> new FormulaPages(40);
        for (int d = 0; d <= 5; d++) {
            int depth = d;
            CHECK.dueSame("D " + d + " lost", Check.after(() -> Make.deep(40, depth),
                    y -> y.crash(0)), fresh);
        }
    }

    private static void alteredPages() {
        Supplier<FormulaPages> more = Make::keptAndMore;
        CHECK.dueSame("poked and crash(32)", Check.after(more, x -> {
            x.poke(0, 0, 255);
            x.poke(1, 60, 1);
            x.poke(2, 63, 1);
            x.crash(32);
        }), more);
        FormulaPages x = more.get();
        x.poke(0, 0, 1);
        x.crash(32);
        x.poke(0, 0, 1);
        CHECK.due("the same mask is not taken back", Check.thrownBy(x, y -> y.save()),
                "IllegalStateException");
        x.poke(0, 0, 1);
        CHECK.due("it is now", x.save(), 14);
        FormulaPages other = more.get();
        other.poke(0, 0, 1);
        other.crash(32);
        other.poke(0, 0, 2);
        CHECK.due("another mask of the same byte", Check.thrownBy(other, y -> y.save()),
                "IllegalStateException");
        CHECK.due("byteAt", other.byteAt(0, 0), 1 ^ 2);
        other.poke(0, 0, 2);
        CHECK.due("taken back", other.save(), 14);
    }

    private static void putAgain() {
        FormulaPages x = new FormulaPages(40);
        CHECK.due("an empty journal", x.crash(0), 0);
        for (int length = 1; length <= 12; length++) {
            Check.put(x, -length, Make.name(length, 20 * length));
        }
        CHECK.due("crash", x.crash(x.count(4)), 12);
        for (int length = 1; length <= 12; length++) {
            CHECK.due("find " + length, Check.find(x, Make.name(length, 20 * length)), -length);
        }
        for (int d = 0; d <= 5; d++) {
            int depth = d;
            Supplier<FormulaPages> deep = () -> Make.deep(40, depth);
            CHECK.dueSame("D " + d, Check.after(deep, y -> y.crash(y.count(4))), deep);
        }
    }

    private static void fullJournal() {
        Supplier<FormulaPages> full = () -> Make.journalOf(600);
        int acts = full.get().count(3);
        CHECK.due("crash(600)", full.get().crash(600), acts);
        CHECK.dueSame("crash(600)", Check.after(full, x -> x.crash(600)), full);
        CHECK.due("crash(599)", full.get().crash(599), acts - 1);
        CHECK.dueThrow(full, "crash(601)", IllegalArgumentException.class, x -> x.crash(601));
    }

    /** For each length of a name: all of its act, and all but a byte. */
    private static void wholeActsOnly() {
        for (int length = 1; length <= 12; length++) {
            int size = length + 6;
            CHECK.due("whole of " + length, twice(length).crash(2 * size), 2);
            CHECK.due("a byte less", twice(length).crash(2 * size - 1), 1);
            CHECK.due("a byte more than one", twice(length).crash(size + 1), 1);
            CHECK.due("one", twice(length).crash(size), 1);
            CHECK.due("not one", twice(length).crash(size - 1), 0);
            FormulaPages x = twice(length);
            x.crash(2 * size - 1);
            CHECK.due("journal", x.count(4), size);
            CHECK.due("find", Check.find(x, Make.name(length, 7)), 1);
        }
    }

    private static FormulaPages twice(int length) {
        FormulaPages x = new FormulaPages(1);
        Check.put(x, 1, Make.name(length, 7));
        Check.put(x, 2, Make.name(length, 7));
        return x;
    }

    /** All else in the forged acts is right, so that it is the length alone that stops it. */
    private static void lengths() {
        dueLength(0, 0);
        dueLength(1, 1);
        dueLength(12, 1);
        dueLength(13, 0);
        dueLength(14, 0);
        for (int mask : new int[] {12, 128, 255 ^ 12, 12 ^ 11}) {
            FormulaPages x = twice(12);
            x.pokeJournal(0, mask);
            CHECK.due("poked by " + mask, x.crash(36), 0);
            CHECK.due("journal", x.count(4), 0);
        }
    }

    /** Two acts of 18 bytes, with one act written over them that has a name of so many bytes. */
    private static void dueLength(int length, int acts) {
        FormulaPages x = twice(12);
        List<Integer> was = new ArrayList<>(Model.act(Make.name(12, 7), 1));
        was.addAll(Model.act(Make.name(12, 7), 2));
        List<Integer> forged = Model.act(Make.name(length, 9), 6);
        Make.forge(x, 0, was, forged);
        CHECK.due("length " + length, x.crash(forged.size()), acts);
        CHECK.due("journal", x.count(4), acts * forged.size());
        CHECK.due("names", x.count(2), acts);
    }

    /** Each bit of it, and one bit of each byte that it is the SUM of. */
    private static void lastByte() {
        for (int bit = 0; bit < 8; bit++) {
            duePokedStops(15, 1 << bit);
        }
        for (int i = 8; i <= 13; i++) {
            duePokedStops(i, 128);
        }
        FormulaPages x = Make.keptAndMore();
        x.pokeJournal(15, 1);
        x.pokeJournal(15, 1);
        CHECK.due("right again", x.crash(32), 14);
    }

    private static void duePokedStops(int i, int mask) {
        FormulaPages x = Make.keptAndMore();
        x.pokeJournal(i, mask);
        CHECK.due("poked " + i, x.crash(32), 11);
        CHECK.due("journal", x.count(4), 8);
        CHECK.due("has 10", Check.has(x, 10, 0), true);
        CHECK.due("has 11", Check.has(x, 11, 0), false);
        CHECK.due("has 12", Check.has(x, 12, 0), false);
    }

    /** The lowest byte of a SUM does not depend on the last byte summed, so it cannot tell it. */
    private static void lastByteOfANumber() {
        FormulaPages x = Make.keptAndMore();
        x.pokeJournal(14, 128);
        CHECK.due("crash", x.crash(32), 14);
        CHECK.due("find", Check.find(x, 11, 0), 111 ^ 128);
        CHECK.due("journal", x.count(4), 32);
    }

    /** The page has no room for another name, so an act that tells one cannot be done. */
    private static void refusedForPages() {
        FormulaPages x = new FormulaPages(1);
        for (int b = 0; b < 9; b++) {
            Check.put(x, b, b);
        }
        x.save();
        Check.put(x, 50, 5);
        Check.put(x, 60, 6);
        Check.put(x, 70, 7);
        Make.forge(x, 7, Model.act(new int[] {6}, 60), Model.act(new int[] {99}, 60));
        CHECK.due("crash", x.crash(21), 10);
        CHECK.due("journal", x.count(4), 7);
        CHECK.due("find 5", Check.find(x, 5), 50);
        CHECK.due("find 6", Check.find(x, 6), 6);
        CHECK.due("find 7", Check.find(x, 7), 7);
        CHECK.due("has 99", Check.has(x, 99), false);
    }

    /** Written over a known name's act, a ninth needs D 5, or D 6, whose splits leave no trace. */
    private static void refusedForDepth() {
        int[] known = Make.namesWithBits(Make.BITS, 5, 8).get(0);
        for (int splits = 5; splits <= 6; splits++) {
            int[] ninth = Make.ninth(splits);
            Supplier<FormulaPages> kept = Check.after(() -> Make.eight(40), x -> x.save());
            Supplier<FormulaPages> forged = Check.after(kept, x -> {
                Check.put(x, 3, known);
                Make.forge(x, 0, Model.act(known, 3), Model.act(ninth, 4));
                x.crash(8);
            });
            CHECK.dueSame("needs " + splits + " splits", forged, splits == 6 ? kept
                    : Check.after(kept, x -> Check.put(x, 4, ninth)));
        }
    }

    private static void whatIsBehindGoes() {
        FormulaPages x = Make.keptAndMore();
        x.crash(20);
        CHECK.due("journal", x.count(4), 16);
        CHECK.due("crash(17)", Check.thrownBy(x, y -> y.crash(17)), "IllegalArgumentException");
        CHECK.due("crash(16)", x.crash(16), 12);
        CHECK.due("put", Check.put(x, 55, 200, 201), 12);
        CHECK.due("journal", x.count(4), 24);
        CHECK.due("crash(24)", x.crash(24), 13);
        CHECK.due("find", Check.find(x, 200, 201), 55);
        CHECK.due("has 12", Check.has(x, 12, 0), false);
        FormulaPages mended = Make.keptAndMore();
        mended.pokeJournal(15, 1);
        mended.crash(32);
        mended.pokeJournal(15, 1);
        CHECK.due("gone, though mended", mended.crash(8), 11);
        CHECK.due("journal", mended.count(4), 8);
    }

    private static void howManyActs() {
        CHECK.due("of none", new FormulaPages(1).crash(0), 0);
        FormulaPages x = Make.keptAndMore();
        Check.put(x, 1, 5, 0);
        CHECK.due("with a known name", x.crash(40), 15);
        CHECK.due("count(3)", x.count(3), 15);
        CHECK.due("crash again", x.crash(40), 15);
        CHECK.due("crash(0)", x.crash(0), 10);
        CHECK.due("crash(0) again", x.crash(0), 10);
    }

    private static void noNameIsFed() {
        for (int kept : new int[] {0, 32}) {
            FormulaPages x = Make.keptAndMore();
            x.feed(1);
            x.crash(kept);
            CHECK.due("find", Check.thrownBy(x, y -> y.find()), "IllegalStateException");
            CHECK.due("the next name begins anew", Check.find(x, 1, 0), 101);
        }
    }

    private static void wrongLengths() {
        Supplier<FormulaPages> fed = Check.after(Make::keptAndMore, x -> {
            x.feed(1);
            x.pokeJournal(25, 1);
        });
        Supplier<FormulaPages> altered = Check.after(fed, x -> x.poke(1, 1, 1));
        for (int kept : new int[] {-1, 33, 600, Integer.MIN_VALUE, Integer.MAX_VALUE}) {
            CHECK.dueThrow(fed, "crash(" + kept + ")", IllegalArgumentException.class,
                    x -> x.crash(kept));
            CHECK.dueThrowAltered(altered, x -> x.poke(1, 1, 1), "crash(" + kept + ")",
                    IllegalArgumentException.class, x -> x.crash(kept));
        }
        CHECK.due("crash(0)", fed.get().crash(0), 10);
        CHECK.due("crash(32)", fed.get().crash(32), 13);
        Supplier<FormulaPages> empty = () -> new FormulaPages(1);
        CHECK.due("crash(0) of an empty journal", empty.get().crash(0), 0);
        CHECK.dueThrow(empty, "crash(1)", IllegalArgumentException.class, x -> x.crash(1));
        CHECK.dueThrow(empty, "crash(-1)", IllegalArgumentException.class, x -> x.crash(-1));
    }
}
