import java.util.List;
import java.util.function.Supplier;

/** Terms: the table, and where records lie. */
public final class TermsTableTest {
    private static final Check CHECK = new Check();

    public static void main(String[] args) {
        CHECK.sentence("The TABLE has 2 to the D entries", TermsTableTest::twoToTheD);
        CHECK.sentence("D being 0 at first", TermsTableTest::dAtFirst);
        CHECK.sentence("entry 0 page 0", TermsTableTest::entryAtFirst);
        CHECK.sentence("A name's RECORD lies in the page at the entry that the lowest D bits of its"
                + " HASH tell", TermsTableTest::recordsLieWhereTheHashTells);
        CHECK.end();
    }

    private static void twoToTheD() {
        for (int d = 0; d <= 5; d++) {
            int depth = d;
            Supplier<FormulaPages> deep = () -> Make.deep(40, depth);
            CHECK.due("D", deep.get().count(0), d);
            CHECK.due("entries", Check.table(deep.get()).size(), 1 << d);
            for (int e : new int[] {-1, 1 << d, (1 << d) + 1}) {
                CHECK.dueThrow(deep, "entry(" + e + ") of D " + d,
                        ArrayIndexOutOfBoundsException.class, x -> x.entry(e));
            }
        }
    }

    private static void dAtFirst() {
        for (int pages : new int[] {1, 2, 40}) {
            CHECK.due("D", new FormulaPages(pages).count(0), 0);
        }
    }

    private static void entryAtFirst() {
        for (int pages : new int[] {1, 2, 40}) {
            CHECK.due("table", Check.table(new FormulaPages(pages)), List.of(0));
        }
    }

    private static void recordsLieWhereTheHashTells() {
        for (int d = 0; d <= 5; d++) {
            for (int bits = 0; bits < 32; bits++) {
                dueRecordOf(d, Make.namesWithBits(bits, 5, 9).get(8));
            }
        }
        for (int page = 0; page < 40; page++) {
            dueRecordsOfAFullPage(page);
        }
        CHECK.due("a hash with its highest bit", Make.namesForAllPages().stream()
                .anyMatch(name -> Check.sum(name) >= 1L << 31), true);
    }

    /** The name makes a page split, or none; its record must be the last of its page then. */
    private static void dueRecordOf(int d, int[] name) {
        FormulaPages x = Make.deep(40, d);
        if (Check.put(x, 99, name) < 0) {
            return;
        }
        int page = x.entry((int) (Check.sum(name) % (1 << x.count(0))));
        int end = 2 + 7 * x.byteAt(page, 1);
        CHECK.due("last record of page " + page, Check.bytes(x, page, end - 7, end),
                Check.record(99, name));
    }

    /** With 32 pages of DEPTH 5 each record's five bits are those of its page's one entry. */
    private static void dueRecordsOfAFullPage(int page) {
        FormulaPages x = Make.allPages(40);
        int records = x.byteAt(page, 1);
        CHECK.due("records of page " + page, records == (page < 32 ? 4 : 0)
                || records == (page < 32 ? 5 : 0), true);
        for (int r = 0; r < records; r++) {
            int first = x.byteAt(page, 3 + 7 * r);
            int second = x.byteAt(page, 4 + 7 * r);
            CHECK.due("entry of a record in page " + page,
                    x.entry((int) (Check.sum(first, second) % 32)), page);
        }
    }
}
