import java.util.ArrayList;
import java.util.List;
import java.util.function.Supplier;

/** Terms: what PUT does, with its splits and refusals. */
public final class TermsPutTest {
    private static final Check CHECK = new Check();

    public static void main(String[] args) {
        CHECK.sentence("if it has a RECORD, that gets the number", TermsPutTest::knownNames);
        CHECK.sentence("If it has none, and the RECORD has room ahead of byte 60 of its page, it"
                + " comes there", TermsPutTest::roomToTheLastByte);
        CHECK.sentence("the RECORD has room ahead of byte 60 of its page: a byte too much",
                TermsPutTest::roomShortOfAByte);
        CHECK.sentence("If not, that page p, of DEPTH d, SPLITS", TermsPutTest::splitsIfNoRoom);
        CHECK.sentence("if d is D, D becomes one more", TermsPutTest::growsIfDIsReached);
        CHECK.sentence("if d is D, D becomes one more: and not else",
                TermsPutTest::growsNotBelowD);
        CHECK.sentence("entry e + 2 to the d is as entry e is, for each",
                TermsPutTest::doubledTables);
        CHECK.sentence("the lowest page that isn't USED is USED then",
                TermsPutTest::lowestPageIsTaken);
        CHECK.sentence("both it and p have DEPTH d + 1", TermsPutTest::bothAreDeeper);
        CHECK.sentence("RECORDS whose HASH has bit d go to it, in their order, the others stay, in"
                + " theirs", TermsPutTest::someGoSomeStay);
        CHECK.sentence("RECORDS whose HASH has bit d go to it: all of them",
                TermsPutTest::allGo);
        CHECK.sentence("the others stay: all of them", TermsPutTest::allStay);
        CHECK.sentence("entries of p whose number has bit d become it",
                TermsPutTest::entriesOfPAlone);
        CHECK.sentence("Then the name is PUT, from the beginning", TermsPutTest::fromTheBeginning);
        CHECK.sentence("REFUSED, and nothing changes at all, if some SPLIT would need a page that"
                + " there isn't", TermsPutTest::refusedForPages);
        CHECK.sentence("would need a page that there isn't: below D too",
                TermsPutTest::refusedForPagesBelowD);
        CHECK.sentence("REFUSED, and nothing changes at all, if some SPLIT would need [..] D above"
                + " 5", TermsPutTest::refusedForDepth);
        CHECK.sentence("would need a page that there isn't: all 32 that D 5 can use",
                TermsPutTest::allPagesUsed);
        CHECK.sentence("D above 5: though pages aren't USED", TermsPutTest::allDepthsReached);
        CHECK.end();
    }

    /** The first, a middle and the last record, in a page that has no room for another name. */
    private static void knownNames() {
        int[][] fill = {{200}, {201}, {202}, {203}, {204}, {205}, {206}, {207}, {208}};
        for (int k : new int[] {0, 4, 8}) {
            FormulaPages x = new FormulaPages(1);
            List<Integer> due = new ArrayList<>();
            for (int i = 0; i < 9; i++) {
                Check.put(x, 1, fill[i]);
                due.addAll(Check.record(i == k ? -77 : 1, fill[i]));
            }
            CHECK.due("put", Check.put(x, -77, fill[k]), 9);
            CHECK.due("page", Check.bytes(x, 0, 0, 64), Check.page(0, 9, due));
            CHECK.due("names", x.count(2), 9);
        }
        FormulaPages deep = Make.deep(6, 5);
        CHECK.due("D 5, all pages used", Check.put(deep, 8, Make.namesWithBits(Make.BITS, 5, 8)
                .get(7)), 9);
        CHECK.due("used", deep.count(1), 6);
        CHECK.due("last number of page 4", Check.bytes(deep, 4, 54, 58), List.of(0, 0, 0, 8));
    }

    private static void roomToTheLastByte() {
        for (int length = 1; length <= 12; length++) {
            FormulaPages x = Make.filledTo(40, 58 - (length + 5));
            int acts = x.count(3);
            CHECK.due("put of " + length, Check.put(x, -1, Make.name(length, 7)), acts);
            CHECK.due("used", x.count(1), 1);
            CHECK.due("record", Check.bytes(x, 0, 60 - (length + 5), 60),
                    Check.record(-1, Make.name(length, 7)));
        }
    }

    /** With one page the name is refused for it; with more the page splits. */
    private static void roomShortOfAByte() {
        for (int length = 1; length <= 12; length++) {
            int[] name = Make.name(length, 7);
            int filled = 58 - (length + 5) + 1;
            CHECK.due("put of " + length, Check.put(Make.filledTo(1, filled), -1, name), -1);
            CHECK.dueSame("refused", Check.after(() -> Make.filledTo(1, filled),
                    x -> Check.put(x, -1, name)), () -> Make.filledTo(1, filled));
            FormulaPages x = Make.filledTo(40, filled);
            int acts = x.count(3);
            CHECK.due("put of " + length, Check.put(x, -1, name), acts);
            CHECK.due("used, " + length, x.count(1) > 1, true);
        }
    }

    private static void splitsIfNoRoom() {
        FormulaPages x = Make.eight(2);
        CHECK.due("used with eight", x.count(1), 1);
        CHECK.due("D with eight", x.count(0), 0);
        CHECK.due("put", Check.put(x, 1, Make.ninth(1)), 8);
        CHECK.due("used with nine", x.count(1), 2);
        CHECK.due("D with nine", x.count(0), 1);
    }

    private static void growsIfDIsReached() {
        for (int d = 1; d <= 5; d++) {
            FormulaPages x = Make.deep(40, d);
            CHECK.due("D", x.count(0), d);
            CHECK.due("used", x.count(1), d + 1);
        }
    }

    /** Each page of a lesser DEPTH gets nine names that one split takes apart. */
    private static void growsNotBelowD() {
        int[][] bitsAndDepth = {{0b00001, 1}, {0b00000, 2}, {0b00110, 3}, {0b00010, 4}};
        for (int[] pair : bitsAndDepth) {
            FormulaPages x = nineMore(40, pair[0], pair[1]);
            CHECK.due("page " + x.entry(pair[0]), x.byteAt(x.entry(pair[0]), 0), pair[1] + 1);
            CHECK.due("D", x.count(0), 5);
            CHECK.due("used", x.count(1), 7);
        }
    }

    /** D is 5; of nine names that go to a page of DEPTH d four differ in bit d from the others. */
    private static FormulaPages nineMore(int pages, int bits, int d) {
        FormulaPages x = Make.deep(pages, 5);
        Check.putAll(x, 1, Make.namesWithBits(bits, 5, 5));
        Check.putAll(x, 1, Make.namesWithBits(bits | 1 << d, 5, 4));
        return x;
    }

    private static void doubledTables() {
        List<List<Integer>> due = List.of(
                List.of(0),
                List.of(0, 1),
                List.of(0, 1, 2, 1),
                List.of(0, 1, 2, 1, 0, 1, 3, 1),
                List.of(0, 1, 2, 1, 0, 1, 3, 1, 0, 1, 4, 1, 0, 1, 3, 1),
                List.of(0, 1, 2, 1, 0, 1, 3, 1, 0, 1, 4, 1, 0, 1, 3, 1,
                        0, 1, 2, 1, 0, 1, 3, 1, 0, 1, 5, 1, 0, 1, 3, 1));
        for (int d = 0; d <= 5; d++) {
            CHECK.due("table of D " + d, Check.table(Make.deep(40, d)), due.get(d));
        }
    }

    /** Page by page; and a page that a crash took back is the lowest again. */
    private static void lowestPageIsTaken() {
        FormulaPages x = Make.deep(40, 2);
        CHECK.due("page 1 is used", x.byteAt(1, 0), 1);
        CHECK.due("page 2 is used", x.byteAt(2, 0), 2);
        CHECK.due("page 3 isn't", x.byteAt(3, 0), 0);
        x.save();
        Check.put(x, 1, Make.ninth(4));
        CHECK.due("pages 3 and 4 are used", Check.table(x).containsAll(List.of(3, 4)), true);
        x.crash(0);
        CHECK.due("used", x.count(1), 3);
        Check.put(x, 1, Make.ninth(3));
        CHECK.due("used", x.count(1), 4);
        CHECK.due("page 3 is used again", Check.table(x), List.of(0, 1, 2, 1, 0, 1, 3, 1));
    }

    private static void bothAreDeeper() {
        for (int d = 1; d <= 5; d++) {
            FormulaPages x = Make.deep(40, d);
            int mine = x.entry(Make.BITS & (1 << d) - 1);
            int other = x.entry((Make.BITS ^ 1 << d - 1) & (1 << d) - 1);
            CHECK.due("p", x.byteAt(mine, 0), d);
            CHECK.due("the other", x.byteAt(other, 0), d);
            CHECK.due("two pages", mine != other, true);
        }
    }

    private static void someGoSomeStay() {
        splitDeals(0, 1, 2, 3, 4, 5, 6, 7, 8);
        splitDeals(7, 4, 6, 3, 5, 8, 2, 1, 0);
        splitDeals(3, 0, 4, 1, 8, 2, 9, 5, 13);
        splitDeals(7, 4, 6, 3, 5, 8, 2, 9, 1);
    }

    /** Of the names with these first bytes the last one makes page 0 split. */
    private static void splitDeals(int... firsts) {
        FormulaPages x = new FormulaPages(2);
        List<Integer> without = new ArrayList<>();
        List<Integer> with = new ArrayList<>();
        for (int b : firsts) {
            Check.put(x, 7, b, 0);
            (Check.sum(b, 0) % 2 == 0 ? without : with).addAll(Check.record(7, b, 0));
        }
        CHECK.due("D", x.count(0), 1);
        CHECK.due("both have some", without.isEmpty() || with.isEmpty(), false);
        duePage(x, 0, 1, without);
        duePage(x, 1, 1, with);
    }

    private static void duePage(FormulaPages x, int page, int depth, List<Integer> records) {
        CHECK.due("page " + page, Check.bytes(x, page, 0, 64),
                Check.page(depth, records.size() / 7, records));
    }

    /** Bit 0 is 0 in the HASHES of eight(), bit 1 is 1. */
    private static void allStay() {
        FormulaPages x = Make.deep(2, 1);
        duePage(x, 0, 1, records(Make.namesWithBits(Make.BITS, 5, 8)));
        duePage(x, 1, 1, records(List.of(Make.ninth(1))));
    }

    private static void allGo() {
        FormulaPages x = Make.deep(3, 2);
        duePage(x, 0, 2, records(List.of(Make.ninth(2))));
        duePage(x, 1, 1, List.of());
        duePage(x, 2, 2, records(Make.namesWithBits(Make.BITS, 5, 8)));
    }

    private static List<Integer> records(List<int[]> names) {
        List<Integer> records = new ArrayList<>();
        for (int[] name : names) {
            records.addAll(Check.record(1, name));
        }
        return records;
    }

    /** Pages that lie at 16, 8, 4 and 2 entries split: half of their entries become page 6. */
    private static void entriesOfPAlone() {
        CHECK.due("sixteen", Check.table(nineMore(40, 0b00001, 1)),
                List.of(0, 1, 2, 6, 0, 1, 3, 6, 0, 1, 4, 6, 0, 1, 3, 6,
                        0, 1, 2, 6, 0, 1, 3, 6, 0, 1, 5, 6, 0, 1, 3, 6));
        CHECK.due("eight", Check.table(nineMore(40, 0b00000, 2)),
                List.of(0, 1, 2, 1, 6, 1, 3, 1, 0, 1, 4, 1, 6, 1, 3, 1,
                        0, 1, 2, 1, 6, 1, 3, 1, 0, 1, 5, 1, 6, 1, 3, 1));
        CHECK.due("four", Check.table(nineMore(40, 0b00110, 3)),
                List.of(0, 1, 2, 1, 0, 1, 3, 1, 0, 1, 4, 1, 0, 1, 6, 1,
                        0, 1, 2, 1, 0, 1, 3, 1, 0, 1, 5, 1, 0, 1, 6, 1));
        CHECK.due("two", Check.table(nineMore(40, 0b00010, 4)),
                List.of(0, 1, 2, 1, 0, 1, 3, 1, 0, 1, 4, 1, 0, 1, 3, 1,
                        0, 1, 6, 1, 0, 1, 3, 1, 0, 1, 5, 1, 0, 1, 3, 1));
    }

    /** One act and one record, however many splits the name needs. */
    private static void fromTheBeginning() {
        for (int splits = 1; splits <= 5; splits++) {
            FormulaPages x = Make.eight(40);
            CHECK.due("put", Check.put(x, -9, Make.ninth(splits)), 8);
            CHECK.due("used", x.count(1), splits + 1);
            CHECK.due("names", x.count(2), 9);
            CHECK.due("acts", x.count(3), 9);
            CHECK.due("journal", x.count(4), 72);
            CHECK.due("find", Check.find(x, Make.ninth(splits)), -9);
            CHECK.due("find", Check.find(x, Make.namesWithBits(Make.BITS, 5, 8).get(7)), 1);
        }
    }

    /** As many splits as there are pages need one more than there is. */
    private static void refusedForPages() {
        for (int splits = 1; splits <= 5; splits++) {
            int[] ninth = Make.ninth(splits);
            CHECK.due("enough", Check.put(Make.eight(splits + 1), 1, ninth), 8);
            dueRefused(splits, ninth);
        }
    }

    private static void dueRefused(int pages, int[] name) {
        Supplier<FormulaPages> eight = () -> Make.eight(pages);
        CHECK.due("of " + pages + " pages", Check.put(eight.get(), 1, name), -1);
        CHECK.dueSame("refused", Check.after(eight, x -> Check.put(x, 1, name)), eight);
    }

    /** The split of page 1 leaves D as it is, but needs a seventh page. */
    private static void refusedForPagesBelowD() {
        CHECK.due("enough", nineMore(7, 0b00001, 1).count(2), 18);
        FormulaPages x = nineMore(6, 0b00001, 1);
        CHECK.due("names", x.count(2), 17);
        int[] last = Make.namesWithBits(0b00011, 5, 4).get(3);
        CHECK.due("not enough", Check.put(x, 1, last), -1);
        CHECK.dueSame("refused", Check.after(() -> nineMore(6, 0b00001, 1),
                y -> Check.put(y, 1, last)), () -> nineMore(6, 0b00001, 1));
    }

    /** From D 0 on, from each D between, and when D is 5 already. */
    private static void refusedForDepth() {
        CHECK.due("D may be 5", Check.put(Make.eight(40), 1, Make.ninth(5)), 8);
        dueRefused(40, Make.ninth(6));
        dueRefused(7, Make.ninth(6));
        dueRefused(40, Make.alike());
        for (int d = 1; d <= 5; d++) {
            int before = d;
            Supplier<FormulaPages> deep = () -> Make.deep(40, before);
            CHECK.due("D " + d, Check.put(deep.get(), 1, Make.ninth(6)), -1);
            CHECK.dueSame("refused", Check.after(deep, x -> Check.put(x, 1, Make.ninth(6))), deep);
        }
        FormulaPages x = Make.deep(40, 5);
        CHECK.due("into another page of DEPTH 5", Check.put(x, 1, Make.namesWithBits(
                Make.BITS ^ 16, 5, 2).get(1)), 9);
    }

    private static void allPagesUsed() {
        int[] last = Make.namesForAllPages().get(143);
        for (int pages : new int[] {32, 33, 40}) {
            FormulaPages x = Make.allPagesButTheLast(pages);
            CHECK.due("the last of " + pages, Check.put(x, 1, last), 143);
            CHECK.due("used", x.count(1), 32);
            for (int page = 0; page < pages; page++) {
                CHECK.due("depth of page " + page, x.byteAt(page, 0), page < 32 ? 5 : 0);
            }
        }
        Supplier<FormulaPages> short1 = () -> Make.allPagesButTheLast(31);
        CHECK.due("a page too few", Check.put(short1.get(), 1, last), -1);
        CHECK.due("used", short1.get().count(1), 31);
        CHECK.dueSame("refused", Check.after(short1, x -> Check.put(x, 1, last)), short1);
    }

    /** Of 40 pages 32 are of DEPTH 5; one has five names, gets three, and cannot split for one. */
    private static void allDepthsReached() {
        List<int[]> names = Make.namesWithBits(Make.BITS, 5, 8).subList(5, 8);
        Supplier<FormulaPages> eight = Check.after(() -> Make.allPages(40), x -> {
            for (int[] name : names) {
                CHECK.due("put", Check.put(x, 2, name) >= 0, true);
            }
        });
        int[] ninth = Make.ninth(6);
        CHECK.due("used", eight.get().count(1), 32);
        CHECK.due("ninth", Check.put(eight.get(), 1, ninth), -1);
        CHECK.due("refused", Check.look(Check.after(eight, x -> Check.put(x, 1, ninth))),
                Check.look(eight));
    }
}
