import java.util.ArrayList;
import java.util.Arrays;
import java.util.List;
import java.util.function.Supplier;

/** Terms: the journal, and what is kept. */
public final class TermsJournalTest {
    private static final Check CHECK = new Check();

    public static void main(String[] args) {
        CHECK.sentence("The JOURNAL has up to 600 bytes: an act that just has room",
                TermsJournalTest::roomToTheLastByte);
        CHECK.sentence("The JOURNAL has up to 600 bytes: a byte too few",
                TermsJournalTest::roomShortOfAByte);
        CHECK.sentence("The JOURNAL has up to 600 bytes: full", TermsJournalTest::fullJournal);
        CHECK.sentence("for each PUT that isn't REFUSED", TermsJournalTest::refusedPutsAreNotThere);
        CHECK.sentence("behind what was", TermsJournalTest::actsInTheirOrder);
        CHECK.sentence("the name's length, its bytes, the number in four bytes as above, and the"
                + " lowest byte of the SUM of all these", TermsJournalTest::bytesOfAnAct);
        CHECK.sentence("the lowest byte of the SUM of all these", TermsJournalTest::lowestByteOnly);
        CHECK.sentence("save() KEEPS pages, the TABLE, how many ACTS there were",
                TermsJournalTest::saveKeepsAll);
        CHECK.sentence("how many ACTS there were (PUTS that weren't REFUSED)",
                TermsJournalTest::actsAreNotNames);
        CHECK.sentence("and empties the JOURNAL", TermsJournalTest::saveEmptiesTheJournal);
        CHECK.sentence("at first all is KEPT as it is then", TermsJournalTest::keptAtFirst);
        CHECK.end();
    }

    private static void roomToTheLastByte() {
        for (int length = 1; length <= 12; length++) {
            FormulaPages x = Make.journalOf(600 - (length + 6));
            int acts = x.count(3);
            CHECK.due("put of " + length, Check.put(x, -5, Make.name(length, 7)), acts);
            CHECK.due("journal", x.count(4), 600);
            CHECK.due("crash", x.crash(600), acts + 1);
            CHECK.due("find", Check.find(x, Make.name(length, 7)), -5);
        }
    }

    private static void roomShortOfAByte() {
        for (int length = 1; length <= 12; length++) {
            int[] name = Make.name(length, 7);
            int before = 600 - (length + 6) + 1;
            Supplier<FormulaPages> made = () -> Make.journalOf(before);
            CHECK.due("journal", made.get().count(4), before);
            CHECK.due("put of " + length, Check.put(made.get(), -5, name), -2);
            CHECK.dueSame("no room", Check.after(made, x -> Check.put(x, -5, name)), made);
        }
    }

    /** Then no act has room, not even of a name that has a record. */
    private static void fullJournal() {
        Supplier<FormulaPages> full = () -> Make.journalOf(600);
        CHECK.due("journal", full.get().count(4), 600);
        for (int[] name : new int[][] {{1}, Make.name(12, 1), Make.name(12, 7)}) {
            CHECK.due("put", Check.put(full.get(), 1, name), -2);
            CHECK.dueSame("full", Check.after(full, x -> Check.put(x, 1, name)), full);
        }
        FormulaPages x = full.get();
        int acts = x.count(3);
        CHECK.due("save", x.save(), acts);
        CHECK.due("journal", x.count(4), 0);
        CHECK.due("put", Check.put(x, 1, 1), acts);
        CHECK.due("journal", x.count(4), 7);
    }

    private static void refusedPutsAreNotThere() {
        FormulaPages x = Make.filledTo(1, 58);
        int before = x.count(4);
        CHECK.due("refused", Check.put(x, 1, 7), -1);
        CHECK.due("journal", x.count(4), before);
        CHECK.due("the beginning of a known name", Check.put(x, 1, 200), -1);
        CHECK.due("journal", x.count(4), before);
        int[] known = new int[9];
        Arrays.fill(known, 200);
        CHECK.due("known", Check.put(x, 1, known), 4);
        CHECK.due("journal", x.count(4), before + 15);
    }

    /** The same name thrice: each cut tells the number that was put last ahead of it. */
    private static void actsInTheirOrder() {
        for (int acts = 0; acts <= 3; acts++) {
            FormulaPages x = new FormulaPages(1);
            for (int v = 1; v <= 3; v++) {
                CHECK.due("journal", x.count(4), 8 * (v - 1));
                Check.put(x, 10 * v, 5, 6);
            }
            CHECK.due("crash", x.crash(8 * acts), acts);
            CHECK.due("find", Check.find(x, 5, 6), 10 * acts);
        }
    }

    /** If each byte is as due, another act can be written over it, and is put by a crash. */
    private static void bytesOfAnAct() {
        int[] numbers = {0, 1, -1, Integer.MIN_VALUE, Integer.MAX_VALUE, 0x12345678};
        for (int length = 1; length <= 12; length++) {
            for (int v : numbers) {
                int[] name = Make.name(length, 7);
                int[] other = Make.name(length, 8);
                FormulaPages x = new FormulaPages(1);
                Check.put(x, v, name);
                CHECK.due("journal", x.count(4), length + 6);
                Make.forge(x, 0, Model.act(name, v), Model.act(other, ~v));
                CHECK.due("crash", x.crash(length + 6), 1);
                CHECK.due("page", Check.bytes(x, 0, 0, 64),
                        Check.page(0, 1, Check.record(~v, other)));
            }
        }
    }

    /** Two numbers whose SUMS differ in their higher bytes alone can stand for one another. */
    private static void lowestByteOnly() {
        List<Integer> was = Model.act(new int[] {5}, 0);
        int alike = 0;
        for (int v = 1; v < 65536; v += 257) {
            List<Integer> other = Model.act(new int[] {5}, v);
            if (was.get(6).equals(other.get(6))) {
                alike++;
            }
            FormulaPages x = new FormulaPages(1);
            Check.put(x, 0, 5);
            Make.forge(x, 0, was.subList(0, 6), other.subList(0, 6));
            CHECK.due("crash", x.crash(7), was.get(6).equals(other.get(6)) ? 1 : 0);
        }
        CHECK.due("some are alike", alike > 0 && alike < 256, true);
    }

    private static void saveKeepsAll() {
        for (int d = 0; d <= 5; d++) {
            int depth = d;
            Supplier<FormulaPages> saved =
                    Check.after(() -> Make.deep(40, depth), x -> x.save());
            CHECK.dueSame("D " + d, Check.after(saved, x -> {
                Check.putAll(x, 9, Make.namesWithBits(1, 5, 8));
                Check.put(x, 9, Make.namesWithBits(3, 5, 1).get(0));
                Check.put(x, 9, Make.namesWithBits(Make.BITS, 5, 1).get(0));
                x.crash(0);
            }), saved);
            CHECK.due("acts", saved.get().crash(0), d == 0 ? 8 : 9);
        }
    }

    private static void actsAreNotNames() {
        FormulaPages x = new FormulaPages(1);
        for (int i = 0; i < 20; i++) {
            CHECK.due("put", Check.put(x, i, i % 4), i);
        }
        CHECK.due("refused", fillAndRefuse(x), -1);
        CHECK.due("save", x.save(), 23);
        CHECK.due("names", x.count(2), 7);
        CHECK.due("crash", x.crash(0), 23);
    }

    /** Four names of one byte take 24 bytes; with 17, 11 and 6 the room of 58 is full. */
    private static int fillAndRefuse(FormulaPages x) {
        Check.put(x, 1, Make.name(12, 100));
        Check.put(x, 1, Make.name(6, 101));
        Check.put(x, 1, 9);
        return Check.put(x, 1, 10);
    }

    private static void saveEmptiesTheJournal() {
        for (int bytes : new int[] {14, 599, 600}) {
            FormulaPages x = Make.journalOf(bytes);
            CHECK.due("journal", x.count(4), bytes);
            x.save();
            CHECK.due("journal", x.count(4), 0);
            CHECK.due("crash(1)", Check.thrownBy(x, y -> y.crash(1)), "IllegalArgumentException");
        }
        Supplier<FormulaPages> empty = () -> new FormulaPages(2);
        CHECK.dueSame("save of an empty journal", Check.after(empty, x -> x.save()), empty);
    }

    private static void keptAtFirst() {
        for (int pages : new int[] {1, 40}) {
            Supplier<FormulaPages> fresh = () -> new FormulaPages(pages);
            CHECK.dueSame("crash(0) at first", Check.after(fresh, x -> x.crash(0)), fresh);
            CHECK.dueSame("crash(0) after puts", Check.after(fresh, x -> {
                Check.putAll(x, 1, Make.namesWithBits(Make.BITS, 5, 8));
                Check.put(x, 1, Make.ninth(5));
                x.crash(0);
            }), fresh);
        }
        List<Integer> answers = new ArrayList<>();
        FormulaPages x = new FormulaPages(1);
        answers.add(x.crash(0));
        answers.add(Check.put(x, 1, 1));
        answers.add(x.crash(0));
        answers.add(Check.put(x, 1, 1));
        CHECK.due("acts begin anew", answers, List.of(0, 0, 0, 0));
    }
}
