import java.util.List;
import java.util.function.Supplier;

/** Promises 6 and 7: save and crash. */
public final class SaveCrashTest {
    private static final Check CHECK = new Check();

    public static void main(String[] args) {
        saveKeepsAll();
        saveLeavesTheFedName();
        saveOfAlteredPages();
        crashLosesWhatIsNotKept();
        crashBringsTheKeptTableBack();
        crashReadsNamesOfAllLengths();
        crashKeepsWholeActsOnly();
        crashTwiceIsAsOnce();
        actsGoOnBehindTheCut();
        crashLosesTheFedName();
        crashRightsAlteredPages();
        crashStopsAtAWrongCheckByte();
        crashTakesANumberWhoseLastByteWasPoked();
        crashStopsAtALengthAstray();
        crashPutsWhatTheJournalTells();
        crashStopsAtARefusal();
        crashOfWrongLengths();
        CHECK.end();
    }

    private static FormulaPages acts(int from, int to) {
        FormulaPages x = new FormulaPages(3);
        for (int b = from; b < to; b++) {
            Check.put(x, b + 100, b, 0);
        }
        return x;
    }

    /** Names 0 to 9 kept, with a split among them, and 10 to 13 in the journal, 8 bytes each. */
    private static FormulaPages savedAndMore() {
        FormulaPages x = acts(0, 10);
        x.save();
        for (int b = 10; b < 14; b++) {
            Check.put(x, b + 100, b, 0);
        }
        return x;
    }

    private static void saveKeepsAll() {
        FormulaPages x = acts(0, 10);
        CHECK.due("save", x.save(), 10);
        CHECK.due("count(4)", x.count(4), 0);
        CHECK.due("count(3)", x.count(3), 10);
        CHECK.due("save again", x.save(), 10);
        Supplier<FormulaPages> saved = () -> {
            FormulaPages y = acts(0, 10);
            y.save();
            return y;
        };
        CHECK.due("crash(0)", Check.picture(Check.after(SaveCrashTest::savedAndMore,
                y -> y.crash(0))), Check.picture(saved));
        CHECK.due("save of a new object", new FormulaPages(1).save(), 0);
    }

    private static void saveLeavesTheFedName() {
        FormulaPages x = acts(0, 3);
        Check.feed(x, 1, 0);
        x.save();
        CHECK.due("find", x.find(), 101);
    }

    private static void saveOfAlteredPages() {
        Supplier<FormulaPages> altered = () -> {
            FormulaPages x = savedAndMore();
            x.poke(2, 30, 4);
            return x;
        };
        CHECK.dueThrow(altered, "save", IllegalStateException.class, x -> x.save());
        FormulaPages x = altered.get();
        x.poke(2, 30, 4);
        CHECK.due("save", x.save(), 14);
    }

    private static void crashLosesWhatIsNotKept() {
        FormulaPages x = acts(0, 12);
        CHECK.due("D", x.count(0) > 0, true);
        CHECK.due("crash(0)", x.crash(0), 0);
        CHECK.due("nothing is left", Check.picture(() -> {
            FormulaPages y = acts(0, 12);
            y.crash(0);
            return y;
        }), Check.picture(() -> new FormulaPages(3)));
    }

    /** Page 1 of DEPTH 1 lies at two of the four entries that are kept, and splits after it. */
    private static void crashBringsTheKeptTableBack() {
        FormulaPages x = new FormulaPages(9);
        putAll(x, Check.namesWithBits(0, 2, 5));
        putAll(x, Check.namesWithBits(2, 2, 5));
        x.save();
        putAll(x, Check.namesWithBits(1, 2, 5));
        putAll(x, Check.namesWithBits(3, 2, 5));
        CHECK.due("entry(3)", x.entry(3), 3);
        x.crash(0);
        CHECK.due("entry(3)", x.entry(3), 1);
        CHECK.due("used", x.count(1), 3);
        putAll(x, Check.namesWithBits(1, 2, 5));
        putAll(x, Check.namesWithBits(3, 2, 5));
        CHECK.due("entry(3)", x.entry(3), 3);
    }

    private static void putAll(FormulaPages x, List<int[]> names) {
        for (int[] name : names) {
            Check.put(x, 1, name);
        }
    }

    private static void crashReadsNamesOfAllLengths() {
        FormulaPages x = new FormulaPages(40);
        for (int length = 1; length <= 12; length++) {
            Check.put(x, -length, nameOf(length));
        }
        CHECK.due("crash", x.crash(x.count(4)), 12);
        for (int length = 1; length <= 12; length++) {
            CHECK.due("find " + length, Check.find(x, nameOf(length)), -length);
        }
    }

    private static int[] nameOf(int length) {
        int[] name = new int[length];
        for (int i = 0; i < length; i++) {
            name[i] = 20 * length + i;
        }
        return name;
    }

    private static void crashKeepsWholeActsOnly() {
        for (int kept = 0; kept <= 32; kept++) {
            FormulaPages x = savedAndMore();
            CHECK.due("crash(" + kept + ")", x.crash(kept), 10 + kept / 8);
            CHECK.due("acts", x.count(3), 10 + kept / 8);
            CHECK.due("journal", x.count(4), kept / 8 * 8);
            CHECK.due("names", x.count(2), 10 + kept / 8);
            for (int b = 0; b < 14; b++) {
                CHECK.due("find " + b, Check.find(x, b, 0), b < 10 + kept / 8 ? b + 100 : 0);
            }
        }
        Supplier<FormulaPages> all = SaveCrashTest::savedAndMore;
        CHECK.due("all of it", Check.picture(Check.after(all, x -> x.crash(32))),
                Check.picture(all));
    }

    private static void crashTwiceIsAsOnce() {
        FormulaPages x = savedAndMore();
        x.crash(20);
        CHECK.due("crash(16)", x.crash(16), 12);
        CHECK.due("crash(16)", x.crash(16), 12);
        CHECK.due("crash(17)", Check.thrownBy(x, y -> y.crash(17)), "IllegalArgumentException");
    }

    private static void actsGoOnBehindTheCut() {
        FormulaPages x = savedAndMore();
        x.crash(20);
        CHECK.due("put", Check.put(x, 55, 200, 201), 12);
        CHECK.due("journal", x.count(4), 24);
        CHECK.due("crash(24)", x.crash(24), 13);
        CHECK.due("find", Check.find(x, 200, 201), 55);
        CHECK.due("has 12", Check.has(x, 12, 0), false);
    }

    private static void crashLosesTheFedName() {
        FormulaPages x = savedAndMore();
        x.feed(1);
        x.crash(32);
        CHECK.due("find", Check.thrownBy(x, y -> y.find()), "IllegalStateException");
    }

    private static void crashRightsAlteredPages() {
        FormulaPages x = savedAndMore();
        x.poke(0, 0, 255);
        x.poke(2, 63, 1);
        CHECK.due("crash", x.crash(32), 14);
        CHECK.due("badAt", x.badAt(), -1);
        CHECK.due("byteAt", x.byteAt(2, 63), 0);
        CHECK.due("names", x.count(2), 14);
        x.poke(0, 0, 1);
        CHECK.due("a poke after it", Check.thrownBy(x, y -> y.save()), "IllegalStateException");
        x.poke(0, 0, 1);
        CHECK.due("taken back", x.save(), 14);
    }

    private static void crashStopsAtAWrongCheckByte() {
        for (int i : new int[] {8, 9, 10, 11, 12, 13, 15}) {
            FormulaPages x = savedAndMore();
            x.pokeJournal(i, 128);
            CHECK.due("poked " + i, x.crash(32), 11);
            CHECK.due("journal", x.count(4), 8);
            CHECK.due("has 10", Check.has(x, 10, 0), true);
            CHECK.due("has 11", Check.has(x, 11, 0), false);
            CHECK.due("has 12", Check.has(x, 12, 0), false);
        }
    }

    /** The lowest byte of a SUM does not depend on the last byte summed, so it cannot tell it. */
    private static void crashTakesANumberWhoseLastByteWasPoked() {
        FormulaPages x = savedAndMore();
        x.pokeJournal(14, 128);
        CHECK.due("crash", x.crash(32), 14);
        CHECK.due("find", Check.find(x, 11, 0), 111 ^ 128);
    }

    /** Writes another row over the journal's bytes from a place on. */
    private static void forge(FormulaPages x, int at, List<Integer> was, List<Integer> due) {
        for (int i = 0; i < due.size(); i++) {
            int mask = was.get(i) ^ due.get(i);
            if (mask != 0) {
                x.pokeJournal(at + i, mask);
            }
        }
    }

    /** The check bytes are right here, so that it is the length alone that stops it. */
    private static void crashStopsAtALengthAstray() {
        FormulaPages none = new FormulaPages(1);
        Check.put(none, 9, 1, 2, 3);
        forge(none, 0, Model.act(new int[] {1, 2, 3}, 9), Model.act(new int[0], 9));
        CHECK.due("length 0", none.crash(9), 0);
        CHECK.due("journal", none.count(4), 0);

        FormulaPages long13 = new FormulaPages(1);
        int[] name = {1, 2, 3, 4, 5, 6, 7, 8, 9, 10, 11, 12};
        Check.put(long13, 9, name);
        Check.put(long13, 9, name);
        List<Integer> was = Model.act(name, 9);
        was.addAll(Model.act(name, 9));
        forge(long13, 0, was, Model.act(new int[13], 9));
        CHECK.due("length 13", long13.crash(36), 0);
        CHECK.due("journal", long13.count(4), 0);
    }

    private static void crashPutsWhatTheJournalTells() {
        crashPutsForged(-7);
        crashPutsForged(0);
        for (int shift = 0; shift < 32; shift++) {
            crashPutsForged(5 << shift);
        }
    }

    private static void crashPutsForged(int v) {
        FormulaPages x = new FormulaPages(1);
        Check.put(x, 9, 1, 2, 3);
        Check.put(x, 10, 4);
        forge(x, 0, Model.act(new int[] {1, 2, 3}, 9), Model.act(new int[] {1, 2, 8}, v));
        CHECK.due("crash", x.crash(16), 2);
        CHECK.due("forged", Check.find(x, 1, 2, 8), v);
        CHECK.due("lost", Check.has(x, 1, 2, 3), false);
        CHECK.due("behind it", Check.find(x, 4), 10);
        CHECK.due("journal", x.count(4), 16);
        CHECK.due("crash", x.crash(16), 2);
    }

    /** The page has no room for another name, so an act that tells one cannot be done. */
    private static void crashStopsAtARefusal() {
        FormulaPages x = new FormulaPages(1);
        for (int b = 0; b < 9; b++) {
            Check.put(x, b, b);
        }
        x.save();
        Check.put(x, 50, 5);
        Check.put(x, 60, 6);
        Check.put(x, 70, 7);
        forge(x, 7, Model.act(new int[] {6}, 60), Model.act(new int[] {99}, 60));
        CHECK.due("crash", x.crash(21), 10);
        CHECK.due("journal", x.count(4), 7);
        CHECK.due("find 5", Check.find(x, 5), 50);
        CHECK.due("find 6", Check.find(x, 6), 6);
        CHECK.due("find 7", Check.find(x, 7), 7);
        CHECK.due("has 99", Check.has(x, 99), false);
    }

    private static void crashOfWrongLengths() {
        Supplier<FormulaPages> fed = () -> {
            FormulaPages x = savedAndMore();
            x.feed(1);
            x.pokeJournal(25, 1);
            return x;
        };
        for (int kept : new int[] {-1, 33, 600, Integer.MIN_VALUE, Integer.MAX_VALUE}) {
            CHECK.dueThrow(fed, "crash(" + kept + ")", IllegalArgumentException.class,
                    x -> x.crash(kept));
        }
        Supplier<FormulaPages> altered = Check.after(fed, x -> x.poke(1, 1, 1));
        CHECK.dueThrow(altered, "crash(33)", IllegalArgumentException.class, x -> x.crash(33));
    }
}
