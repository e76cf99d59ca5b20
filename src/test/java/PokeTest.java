import java.util.function.Supplier;

/** Promises 8 to 11: poke, pokeJournal, badAt and byteAt. */
public final class PokeTest {
    private static final Check CHECK = new Check();

    public static void main(String[] args) {
        pokeTurnsBits();
        everyByteOfAPageCounts();
        masksAddUp();
        alteredButNotBad();
        lowestBadPage();
        wrongPokes();
        journalBytesThatAreThere();
        journalBytesThatAreNotThereYet();
        wrongJournalPokes();
        byteAtEdges();
        CHECK.end();
    }

    private static FormulaPages some() {
        FormulaPages x = new FormulaPages(3);
        Check.put(x, 0x01020304, 65, 66);
        Check.put(x, -1, 67);
        x.feed(65);
        return x;
    }

    private static void pokeTurnsBits() {
        FormulaPages x = some();
        x.poke(0, 3, 255);
        CHECK.due("byteAt", x.byteAt(0, 3), 190);
        x.poke(0, 60, 1);
        x.poke(0, 60, 1);
        CHECK.due("badAt", x.badAt(), 0);
        x.poke(0, 3, 255);
        CHECK.due("byteAt", x.byteAt(0, 3), 65);
        CHECK.due("badAt", x.badAt(), -1);
        CHECK.due("as before", Check.picture(Check.after(PokeTest::some, y -> {
            y.poke(0, 3, 255);
            y.poke(0, 3, 255);
        })), Check.picture(PokeTest::some));
    }

    /** Also the sum's own bytes, and pages that are not used. */
    private static void everyByteOfAPageCounts() {
        for (int page = 0; page < 3; page++) {
            for (int i = 0; i < 64; i++) {
                FormulaPages x = some();
                x.poke(page, i, 16);
                CHECK.due("badAt " + page + " " + i, x.badAt(), page);
                CHECK.due("find", Check.thrownBy(x, y -> y.find()), "IllegalStateException");
            }
        }
    }

    private static void masksAddUp() {
        FormulaPages x = some();
        x.poke(1, 9, 1);
        x.poke(1, 9, 2);
        x.poke(2, 9, 4);
        x.poke(1, 9, 3);
        CHECK.due("one is right, one is not", Check.thrownBy(x, y -> y.count(2)),
                "IllegalStateException");
        CHECK.due("badAt", x.badAt(), 2);
        x.poke(2, 9, 4);
        CHECK.due("names", x.count(2), 2);
    }

    /** With the sum poked right too, no sum tells it; the page is ALTERED all the same. */
    private static void alteredButNotBad() {
        FormulaPages x = some();
        x.poke(2, 59, 7);
        int[] row = new int[60];
        row[59] = 7;
        long sum = Check.sum(row);
        for (int i = 0; i < 4; i++) {
            int mask = (int) (sum >> (24 - 8 * i) & 255);
            if (mask != 0) {
                x.poke(2, 60 + i, mask);
            }
        }
        CHECK.due("badAt", x.badAt(), -1);
        CHECK.due("find", Check.thrownBy(x, y -> y.find()), "IllegalStateException");
        CHECK.due("save", Check.thrownBy(x, y -> y.save()), "IllegalStateException");
        CHECK.due("count(2)", Check.thrownBy(x, y -> y.count(2)), "IllegalStateException");
    }

    private static void lowestBadPage() {
        FormulaPages x = new FormulaPages(40);
        CHECK.due("none", x.badAt(), -1);
        x.poke(39, 0, 1);
        CHECK.due("the last", x.badAt(), 39);
        x.poke(7, 0, 1);
        CHECK.due("a lower one", x.badAt(), 7);
        x.poke(20, 0, 1);
        CHECK.due("one between", x.badAt(), 7);
        x.poke(7, 0, 1);
        CHECK.due("the next", x.badAt(), 20);
    }

    private static void wrongPokes() {
        int[][] noBytes = {{-1, 0}, {3, 0}, {0, -1}, {0, 64}, {Integer.MAX_VALUE, 0},
            {0, Integer.MIN_VALUE}, {-1, 64}};
        for (int[] at : noBytes) {
            for (int mask : new int[] {1, 0, 256}) {
                CHECK.dueThrow(PokeTest::some, "poke", ArrayIndexOutOfBoundsException.class,
                        x -> x.poke(at[0], at[1], mask));
            }
        }
        for (int mask : new int[] {0, -1, 256, Integer.MIN_VALUE, Integer.MAX_VALUE}) {
            CHECK.dueThrow(PokeTest::some, "poke", IllegalArgumentException.class,
                    x -> x.poke(2, 63, mask));
        }
    }

    private static void journalBytesThatAreThere() {
        FormulaPages x = some();
        x.pokeJournal(8, 255);
        CHECK.due("pages are not altered", x.find(), 0);
        CHECK.due("journal", x.count(4), 15);
        x.pokeJournal(8, 255);
        CHECK.due("taken back", x.crash(15), 2);
        x.pokeJournal(14, 1);
        CHECK.due("the last byte", x.crash(15), 1);
        CHECK.due("journal", x.count(4), 8);
        x.pokeJournal(0, 1);
        CHECK.due("the first byte", x.crash(8), 0);
    }

    private static void journalBytesThatAreNotThereYet() {
        FormulaPages x = some();
        for (int i = 15; i < 30; i++) {
            x.pokeJournal(i, 255);
        }
        x.pokeJournal(599, 1);
        CHECK.due("length", x.count(4), 15);
        CHECK.due("put", x.put(8), 2);
        CHECK.due("length", x.count(4), 22);
        CHECK.due("crash", x.crash(22), 3);
        CHECK.due("find", Check.find(x, 65), 8);
    }

    private static void wrongJournalPokes() {
        Supplier<FormulaPages> some = PokeTest::some;
        for (int i : new int[] {-1, 600, Integer.MIN_VALUE, Integer.MAX_VALUE}) {
            for (int mask : new int[] {1, 0, 256}) {
                CHECK.dueThrow(some, "pokeJournal", ArrayIndexOutOfBoundsException.class,
                        x -> x.pokeJournal(i, mask));
            }
        }
        for (int mask : new int[] {0, -1, 256, Integer.MIN_VALUE, Integer.MAX_VALUE}) {
            for (int i : new int[] {0, 599}) {
                CHECK.dueThrow(some, "pokeJournal", IllegalArgumentException.class,
                        x -> x.pokeJournal(i, mask));
            }
        }
    }

    private static void byteAtEdges() {
        FormulaPages x = some();
        CHECK.due("byteAt(0, 0)", x.byteAt(0, 0), 0);
        CHECK.due("byteAt(0, 14)", x.byteAt(0, 14), 255);
        CHECK.due("byteAt(2, 63)", x.byteAt(2, 63), 0);
        x.poke(2, 63, 200);
        CHECK.due("byteAt of an altered page", x.byteAt(2, 63), 200);
        int[][] none = {{-1, 0}, {3, 0}, {0, -1}, {0, 64}, {Integer.MIN_VALUE, 0},
            {Integer.MAX_VALUE, 0}, {0, Integer.MAX_VALUE}, {1, -64}, {0, 64 + 5}};
        for (int[] at : none) {
            CHECK.dueThrow(PokeTest::some, "byteAt", ArrayIndexOutOfBoundsException.class,
                    y -> y.byteAt(at[0], at[1]));
        }
    }
}
