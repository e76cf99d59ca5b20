import java.util.ArrayList;
import java.util.Collections;
import java.util.List;
import java.util.function.Supplier;

/** Terms: what a page is. */
public final class TermsPagesTest {
    private static final Check CHECK = new Check();

    public static void main(String[] args) {
        CHECK.sentence("A PAGE has 64 bytes", TermsPagesTest::sixtyFourBytes);
        CHECK.sentence("0 its DEPTH", TermsPagesTest::depthsZeroToFive);
        CHECK.sentence("1 how many RECORDS are in it", TermsPagesTest::noneToNineRecords);
        CHECK.sentence("from 2 on the RECORDS, one behind the other as they came",
                TermsPagesTest::recordsAsTheyCame);
        CHECK.sentence("the name's length, its bytes, its number in four bytes, the highest first",
                TermsPagesTest::shortestAndLongestRecord);
        CHECK.sentence("then zeros", TermsPagesTest::zerosBehindTheRecords);
        CHECK.sentence("then zeros: none in a full page", TermsPagesTest::noZerosInAFullPage);
        CHECK.sentence("from 60 on the SUM of the bytes 0 .. 59",
                TermsPagesTest::sumTakesInBytesZeroToFiftyNine);
        CHECK.sentence("the SUM of the bytes 0 .. 59, in four bytes, the highest first",
                TermsPagesTest::sumsAfterEachKindOfPut);
        CHECK.sentence("Pages are numbered from 0 on", TermsPagesTest::numbersFromZeroOn);
        CHECK.sentence("at first all have DEPTH 0 and no RECORD", TermsPagesTest::emptyAtFirst);
        CHECK.sentence("and page 0 alone is USED", TermsPagesTest::onePageIsUsed);
        CHECK.end();
    }

    private static void sixtyFourBytes() {
        Supplier<FormulaPages> some = () -> Make.filledTo(2, 58);
        for (int page = 0; page < 2; page++) {
            int p = page;
            CHECK.due("bytes", Check.bytes(some.get(), p, 0, 64).size(), 64);
            for (int i : new int[] {-1, 64}) {
                CHECK.dueThrow(some, "byteAt " + i, ArrayIndexOutOfBoundsException.class,
                        x -> x.byteAt(p, i));
                CHECK.dueThrow(some, "poke " + i, ArrayIndexOutOfBoundsException.class,
                        x -> x.poke(p, i, 1));
            }
        }
    }

    /** By five splits of eight alike names the pages come to have these DEPTHS. */
    private static void depthsZeroToFive() {
        int[][] due = {{0, 0}, {1, 1, 0}, {2, 1, 2, 0}, {2, 1, 3, 3, 0}, {2, 1, 4, 3, 4, 0},
            {2, 1, 4, 3, 5, 5, 0}};
        for (int d = 0; d <= 5; d++) {
            FormulaPages x = Make.deep(40, d);
            for (int page = 0; page < due[d].length; page++) {
                CHECK.due("D " + d + ", page " + page, x.byteAt(page, 0), due[d][page]);
            }
        }
    }

    /** Nine records of one byte are the most that 58 bytes hold; a tenth never has room. */
    private static void noneToNineRecords() {
        for (int pages : new int[] {1, 40}) {
            FormulaPages x = new FormulaPages(pages);
            CHECK.due("records of an empty page", x.byteAt(0, 1), 0);
            for (int b = 0; b < 9; b++) {
                CHECK.due("put", Check.put(x, b, b), b);
                CHECK.due("records", x.byteAt(0, 1), b + 1);
            }
            CHECK.due("known name", Check.put(x, 1, 8), 9);
            CHECK.due("records", x.byteAt(0, 1), 9);
            CHECK.due("tenth", Check.put(x, 1, 9), -1);
            CHECK.due("records", x.byteAt(0, 1), 9);
        }
        FormulaPages x = Make.deep(40, 5);
        CHECK.due("of eight alike", x.byteAt(4, 1), 8);
        CHECK.due("of the ninth", x.byteAt(5, 1), 1);
        CHECK.due("of a page that none went to", x.byteAt(0, 1), 0);
    }

    private static void recordsAsTheyCame() {
        FormulaPages x = new FormulaPages(1);
        List<Integer> due = new ArrayList<>();
        int[][] names = {{9}, {1, 2, 3}, {0}, {9, 9}};
        for (int[] name : names) {
            Check.put(x, 5, name);
            due.addAll(Check.record(5, name));
        }
        CHECK.due("page", Check.bytes(x, 0, 0, 64), Check.page(0, 4, due));
        Check.put(x, 5, 9);
        Check.put(x, 5, 0);
        CHECK.due("page, put again", Check.bytes(x, 0, 0, 64), Check.page(0, 4, due));
    }

    private static void shortestAndLongestRecord() {
        FormulaPages one = new FormulaPages(1);
        Check.put(one, 0x12345678, 200);
        CHECK.due("of one byte", Check.bytes(one, 0, 2, 9), List.of(1, 200, 0x12, 0x34, 0x56, 0x78,
                0));
        FormulaPages twelve = new FormulaPages(1);
        Check.put(twelve, 0x89ABCDEF, 1, 2, 3, 4, 5, 6, 7, 8, 9, 10, 11, 12);
        CHECK.due("of twelve", Check.bytes(twelve, 0, 2, 20), List.of(12, 1, 2, 3, 4, 5, 6, 7, 8, 9,
                10, 11, 12, 0x89, 0xAB, 0xCD, 0xEF, 0));
    }

    private static void zerosBehindTheRecords() {
        CHECK.due("empty page", Check.bytes(new FormulaPages(1), 0, 0, 64),
                Collections.nCopies(64, 0));
        FormulaPages x = Make.filledTo(1, 57);
        CHECK.due("last byte of a number", x.byteAt(0, 58), 255);
        CHECK.due("the one byte behind it", x.byteAt(0, 59), 0);
        for (int d = 1; d <= 5; d++) {
            dueNoRestsAfterSplits(d);
        }
    }

    /** What went to another page leaves zeros, not its old bytes. */
    private static void dueNoRestsAfterSplits(int d) {
        FormulaPages x = Make.deep(40, d);
        for (int page = 0; page <= d; page++) {
            int records = x.byteAt(page, 1);
            CHECK.due("D " + d + ", behind the records of page " + page,
                    Check.bytes(x, page, 2 + 7 * records, 60),
                    Collections.nCopies(58 - 7 * records, 0));
        }
    }

    private static void noZerosInAFullPage() {
        FormulaPages x = Make.filledTo(1, 58);
        CHECK.due("put", x.count(3), 4);
        CHECK.due("a zero", Check.bytes(x, 0, 1, 60).contains(0), false);
        CHECK.due("last byte of a number", x.byteAt(0, 59), 255);
    }

    /** The first and the last byte change the SUM; a byte of the SUM itself doesn't. */
    private static void sumTakesInBytesZeroToFiftyNine() {
        for (int i : new int[] {0, 1, 58, 59}) {
            int[] row = new int[60];
            row[i] = 16;
            FormulaPages x = new FormulaPages(2);
            x.poke(1, i, 16);
            CHECK.due("badAt", x.badAt(), 1);
            Make.write(x, 1, 60, Check.fourBytes(Check.sum(row)));
            CHECK.due("badAt with the sum of byte " + i, x.badAt(), -1);
            x.poke(1, 60, 1);
            CHECK.due("badAt", x.badAt(), 1);
        }
    }

    private static void sumsAfterEachKindOfPut() {
        FormulaPages x = new FormulaPages(1);
        Check.put(x, 0x12345678, 65, 66);
        CHECK.due("new record", Check.bytes(x, 0, 60, 64), List.of(0x28, 0x91, 0xB6, 0x79));
        Check.put(x, -1, 65, 66);
        CHECK.due("another number", Check.bytes(x, 0, 0, 64),
                Check.page(0, 1, Check.record(-1, 65, 66)));
        FormulaPages split = Make.deep(40, 5);
        for (int page = 0; page < 7; page++) {
            List<Integer> bytes = Check.bytes(split, page, 0, 64);
            CHECK.due("split page " + page, bytes.subList(60, 64),
                    Check.fourBytes(Check.sum(Model.ints(bytes.subList(0, 60)))));
        }
    }

    private static void numbersFromZeroOn() {
        for (int pages : new int[] {1, 40}) {
            Supplier<FormulaPages> fresh = () -> new FormulaPages(pages);
            CHECK.due("page 0", fresh.get().byteAt(0, 0), 0);
            CHECK.due("last page", fresh.get().byteAt(pages - 1, 0), 0);
            for (int page : new int[] {-1, pages}) {
                CHECK.dueThrow(fresh, "byteAt", ArrayIndexOutOfBoundsException.class,
                        x -> x.byteAt(page, 0));
                CHECK.dueThrow(fresh, "poke", ArrayIndexOutOfBoundsException.class,
                        x -> x.poke(page, 0, 1));
            }
        }
    }

    private static void emptyAtFirst() {
        for (int page = 0; page < 40; page++) {
            CHECK.due("page " + page, Check.bytes(new FormulaPages(40), page, 0, 64),
                    Collections.nCopies(64, 0));
        }
    }

    /** Page 0 gets the first record; the first split takes page 1, which wasn't USED till then. */
    private static void onePageIsUsed() {
        for (int pages : new int[] {1, 2, 40}) {
            CHECK.due("used of " + pages, new FormulaPages(pages).count(1), 1);
        }
        FormulaPages x = new FormulaPages(2);
        Check.put(x, 1, 5);
        CHECK.due("records of page 0", x.byteAt(0, 1), 1);
        FormulaPages split = Make.deep(2, 1);
        CHECK.due("used", split.count(1), 2);
        CHECK.due("depth of page 1", split.byteAt(1, 0), 1);
    }
}
