import java.util.ArrayList;
import java.util.Collections;
import java.util.List;
import java.util.function.Supplier;

/** Promise 3: put, with the splits and refusals of the Terms. */
public final class PutTest {
    private static final Check CHECK = new Check();

    public static void main(String[] args) {
        recordLiesAsTheTermsSay();
        answersTheActsAheadOfIt();
        knownNameGetsTheNumber();
        recordMayEndAtByte59();
        splitDealsRecordsInTheirOrder();
        splitBelowDLeavesTheTableSize();
        severalSplitsForOneName();
        refusedForPages();
        refusedForDepth();
        refusalAfterSplitsLeavesNoTrace();
        journalWithoutRoom();
        wrongStates();
        CHECK.end();
    }

    private static void recordLiesAsTheTermsSay() {
        FormulaPages x = new FormulaPages(1);
        CHECK.due("put", Check.put(x, 0x12345678, 65, 66), 0);
        Check.put(x, -2, 200);
        List<Integer> due = new ArrayList<>(List.of(0, 2, 2, 65, 66, 0x12, 0x34, 0x56, 0x78, 1, 200,
                255, 255, 255, 254));
        due.addAll(Collections.nCopies(60 - due.size(), 0));
        CHECK.due("bytes", Check.bytes(x, 0, 0, 60), due);
        long sum = Check.sum(Model.ints(due));
        CHECK.due("sum", Check.bytes(x, 0, 60, 64), List.of((int) (sum >> 24),
                (int) (sum >> 16 & 255), (int) (sum >> 8 & 255), (int) (sum & 255)));
        CHECK.due("badAt", x.badAt(), -1);
    }

    private static void answersTheActsAheadOfIt() {
        FormulaPages x = new FormulaPages(1);
        for (int i = 0; i < 20; i++) {
            CHECK.due("put " + i, Check.put(x, i, i % 3), i);
        }
        CHECK.due("count(3)", x.count(3), 20);
        CHECK.due("a name is fed", Check.thrownBy(x, y -> y.put(1)), "IllegalStateException");
    }

    private static void knownNameGetsTheNumber() {
        FormulaPages x = new FormulaPages(1);
        Check.put(x, 1, 5);
        Check.put(x, 2, 6);
        Check.put(x, Integer.MIN_VALUE, 5);
        CHECK.due("bytes", Check.bytes(x, 0, 0, 14),
                List.of(0, 2, 1, 5, 128, 0, 0, 0, 1, 6, 0, 0, 0, 2));
        CHECK.due("badAt", x.badAt(), -1);
        CHECK.due("count(4)", x.count(4), 21);
    }

    /** 17 + 17 + 17 + 7 is just the room of 58 bytes; 8 in the last place is a byte too much. */
    private static void recordMayEndAtByte59() {
        FormulaPages x = almostFull();
        CHECK.due("fits", Check.put(x, -1, 1, 1), 3);
        CHECK.due("last byte", x.byteAt(0, 59), 255);
        CHECK.due("one more", Check.put(x, 1, 1), -1);
        CHECK.due("known still", Check.put(x, 1, 1, 1), 4);
        CHECK.due("too long", Check.put(almostFull(), 1, 1, 1, 1), -1);
    }

    private static FormulaPages almostFull() {
        FormulaPages x = new FormulaPages(1);
        for (int i = 0; i < 3; i++) {
            Check.put(x, i, i, 0, 0, 0, 0, 0, 0, 0, 0, 0, 0, i);
        }
        return x;
    }

    private static void splitDealsRecordsInTheirOrder() {
        splitDeals(0, 1, 2, 3, 4, 5, 6, 7, 8);
        splitDeals(7, 4, 6, 3, 5, 8, 2, 1, 0);
        splitDeals(3, 0, 4, 1, 8, 2, 9, 5, 13);
        splitDeals(7, 4, 6, 3, 5, 8, 2, 9, 1);
    }

    /** Of the names with these first bytes the last one makes page 0 split. */
    private static void splitDeals(int... firsts) {
        FormulaPages x = new FormulaPages(2);
        List<Integer> without = new ArrayList<>();
        List<Integer> with = new ArrayList<>();
        for (int b : firsts) {
            Check.put(x, 7, b, 0);
            (Check.sum(b, 0) % 2 == 0 ? without : with).addAll(List.of(2, b, 0, 0, 0, 0, 7));
        }
        CHECK.due("count(0)", x.count(0), 1);
        CHECK.due("count(1)", x.count(1), 2);
        CHECK.due("entry(0)", x.entry(0), 0);
        CHECK.due("entry(1)", x.entry(1), 1);
        CHECK.due("both have some", without.isEmpty() || with.isEmpty(), false);
        duePage(x, 0, 1, without);
        duePage(x, 1, 1, with);
        CHECK.due("badAt", x.badAt(), -1);
    }

    private static void duePage(FormulaPages x, int page, int depth, List<Integer> records) {
        List<Integer> due = new ArrayList<>(List.of(depth, records.size() / 7));
        due.addAll(records);
        due.addAll(Collections.nCopies(60 - due.size(), 0));
        CHECK.due("page " + page, Check.bytes(x, page, 0, 60), due);
    }

    /** Page 0 splits twice, so D is 2; then page 1, of DEPTH 1, splits without a greater TABLE. */
    private static void splitBelowDLeavesTheTableSize() {
        FormulaPages x = new FormulaPages(9);
        putAll(x, Check.namesWithBits(0, 2, 5));
        putAll(x, Check.namesWithBits(2, 2, 5));
        CHECK.due("D", x.count(0), 2);
        CHECK.due("table", table(x), List.of(0, 1, 2, 1));
        CHECK.due("depth of page 1", x.byteAt(1, 0), 1);
        putAll(x, Check.namesWithBits(1, 2, 5));
        putAll(x, Check.namesWithBits(3, 2, 5));
        CHECK.due("D", x.count(0), 2);
        CHECK.due("table", table(x), List.of(0, 1, 2, 3));
        for (int page = 0; page < 4; page++) {
            CHECK.due("depth of page " + page, x.byteAt(page, 0), 2);
            CHECK.due("records of page " + page, x.byteAt(page, 1), 5);
        }
    }

    private static List<Integer> table(FormulaPages x) {
        List<Integer> table = new ArrayList<>();
        for (int e = 0; e < 1 << x.count(0); e++) {
            table.add(x.entry(e));
        }
        return table;
    }

    private static void putAll(FormulaPages x, List<int[]> names) {
        for (int[] name : names) {
            Check.put(x, 1, name);
        }
    }

    /** Eight names agree in four bits and the ninth in three: four splits at once. */
    private static void severalSplitsForOneName() {
        FormulaPages x = new FormulaPages(5);
        putAll(x, Check.namesWithBits(0b0101, 4, 8));
        CHECK.due("D", x.count(0), 0);
        Check.put(x, 1, Check.namesWithBits(0b1101, 4, 1).get(0));
        CHECK.due("D", x.count(0), 4);
        CHECK.due("used", x.count(1), 5);
        CHECK.due("names", x.count(2), 9);
        CHECK.due("table", table(x), List.of(0, 1, 0, 2, 0, 3, 0, 2, 0, 1, 0, 2, 0, 4, 0, 2));
        CHECK.due("find", Check.find(x, Check.namesWithBits(0b0101, 4, 8).get(7)), 1);
    }

    private static void refusedForPages() {
        FormulaPages x = new FormulaPages(4);
        List<int[]> names = Check.namesWithBits(0b0101, 4, 8);
        putAll(x, names);
        int[] ninth = Check.namesWithBits(0b1101, 4, 1).get(0);
        CHECK.due("four splits, three pages", Check.put(x, 1, ninth), -1);
        CHECK.due("D", x.count(0), 0);
        CHECK.due("used", x.count(1), 1);
        CHECK.due("has", Check.has(x, ninth), false);
        CHECK.due("acts", x.count(3), 8);
        CHECK.due("journal", x.count(4), 64);
        CHECK.due("another", Check.put(x, 1, Check.namesWithBits(0, 1, 1).get(0)), 8);
        CHECK.due("used", x.count(1), 2);
    }

    private static void refusedForDepth() {
        FormulaPages x = new FormulaPages(40);
        List<int[]> names = Check.namesWithBits(0b01010, 5, 8);
        putAll(x, names);
        int[] apart = Check.namesWithBits(0b11010, 5, 1).get(0);
        int[] alike = Check.namesWithBits(0b01010, 5, 9).get(8);
        CHECK.due("D would be 6", Check.put(x, 1, alike), -1);
        CHECK.due("D", x.count(0), 0);
        CHECK.due("D may be 5", Check.put(x, 1, apart), 8);
        CHECK.due("D", x.count(0), 5);
        CHECK.due("used", x.count(1), 6);
        CHECK.due("entry(31)", x.entry(31), x.entry(1));
        CHECK.due("D would be 6", Check.put(x, 1, alike), -1);
        CHECK.due("known", Check.put(x, 5, names.get(3)), 9);
    }

    private static void refusalAfterSplitsLeavesNoTrace() {
        List<int[]> names = Check.namesWithBits(0b01010, 5, 9);
        for (int pages : new int[] {2, 40}) {
            Supplier<FormulaPages> eight = () -> {
                FormulaPages x = new FormulaPages(pages);
                putAll(x, names.subList(0, 8));
                return x;
            };
            Supplier<FormulaPages> refusing =
                    Check.after(eight, x -> Check.put(x, 1, names.get(8)));
            CHECK.due("refused", Check.picture(refusing), Check.picture(eight));
        }
    }

    /** 33 acts of 18 bytes leave 6 bytes: no act is so short; 31 and 6 of 7 leave none. */
    private static void journalWithoutRoom() {
        FormulaPages x = journalOf(33);
        CHECK.due("count(4)", x.count(4), 594);
        CHECK.due("no room", Check.put(x, 3, 1), -2);
        CHECK.due("nothing is fed", Check.thrownBy(x, y -> y.has()), "IllegalStateException");
        CHECK.due("not put", Check.has(x, 1), false);
        CHECK.due("no act", x.count(3), 33);
        CHECK.due("known name", Check.put(x, 3, 0, 0, 0, 0, 0, 0, 0, 0, 0, 0, 0, 0), -2);
        CHECK.due("not put", Check.find(x, 0, 0, 0, 0, 0, 0, 0, 0, 0, 0, 0, 0), 32);
        x.save();
        CHECK.due("room again", Check.put(x, 3, 1), 33);

        FormulaPages full = journalOf(31);
        for (int i = 0; i < 6; i++) {
            CHECK.due("act of 7", Check.put(full, i, 1), 31 + i);
        }
        CHECK.due("count(4)", full.count(4), 600);
        CHECK.due("full", Check.put(full, 3, 1), -2);

        FormulaPages refusing = almostFull();
        int[] another = {9, 0, 0, 0, 0, 0, 0, 0, 0, 0, 0, 9};
        CHECK.due("refused", Check.put(refusing, 1, another), -1);
        for (int i = 0; i < 30; i++) {
            Check.put(refusing, i, new int[12]);
        }
        CHECK.due("-2 goes ahead of -1", Check.put(refusing, 1, another), -2);
    }

    private static FormulaPages journalOf(int acts) {
        FormulaPages x = new FormulaPages(1);
        for (int i = 0; i < acts; i++) {
            Check.put(x, i, new int[12]);
        }
        return x;
    }

    private static void wrongStates() {
        Supplier<FormulaPages> unfed = () -> {
            FormulaPages x = new FormulaPages(2);
            Check.put(x, 1, 1);
            return x;
        };
        CHECK.dueThrow(unfed, "put", IllegalStateException.class, x -> x.put(1));
        Supplier<FormulaPages> altered = () -> {
            FormulaPages x = unfed.get();
            x.feed(9);
            x.poke(1, 63, 128);
            return x;
        };
        CHECK.dueThrow(altered, "put", IllegalStateException.class, x -> x.put(1));
        FormulaPages x = altered.get();
        Check.thrownBy(x, y -> y.put(1));
        x.poke(1, 63, 128);
        CHECK.due("the fed name stayed", x.put(4), 1);
        CHECK.due("find", Check.find(x, 9), 4);
    }
}
