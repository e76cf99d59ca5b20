import java.util.function.Supplier;

/** Promise 11: byteAt. */
public final class ByteAtTest {
    private static final Check CHECK = new Check();

    public static void main(String[] args) {
        CHECK.sentence("A byte of a page", ByteAtTest::bytesOfPages);
        CHECK.sentence("A byte of a page: of an altered one too", ByteAtTest::alteredPages);
        CHECK.sentence("A byte of a page, 0 .. 255", ByteAtTest::lowestAndHighest);
        CHECK.sentence("ArrayIndexOutOfBoundsException: no such page, byte",
                ByteAtTest::noSuchByte);
        CHECK.sentence("byteAt() changes nothing", ByteAtTest::changesNothing);
        CHECK.end();
    }

    private static FormulaPages some() {
        FormulaPages x = new FormulaPages(3);
        Check.put(x, 0x01020304, 65, 66);
        Check.put(x, -1, 67);
        x.feed(65);
        return x;
    }

    private static void bytesOfPages() {
        FormulaPages x = some();
        int[] due = {0, 2, 2, 65, 66, 1, 2, 3, 4, 1, 67, 255, 255, 255, 255, 0};
        for (int i = 0; i < due.length; i++) {
            CHECK.due("byteAt(0, " + i + ")", x.byteAt(0, i), due[i]);
        }
        CHECK.due("byteAt(0, 63)", x.byteAt(0, 63), Check.page(0, 2, Check.bytes(x, 0, 2, 15))
                .get(63));
        CHECK.due("byteAt(2, 0)", x.byteAt(2, 0), 0);
        CHECK.due("byteAt(2, 63)", x.byteAt(2, 63), 0);
    }

    private static void alteredPages() {
        FormulaPages x = some();
        x.poke(0, 3, 255);
        CHECK.due("the altered byte", x.byteAt(0, 3), 190);
        CHECK.due("another one", x.byteAt(0, 4), 66);
        CHECK.due("another page's", x.byteAt(1, 3), 0);
    }

    private static void lowestAndHighest() {
        FormulaPages x = new FormulaPages(1);
        Check.put(x, -1, 255, 0, 128, 127);
        int[] due = {255, 0, 128, 127, 255, 255, 255, 255};
        for (int i = 0; i < due.length; i++) {
            CHECK.due("byte " + i, x.byteAt(0, 3 + i), due[i]);
        }
        for (int i = 0; i < 64; i++) {
            FormulaPages y = new FormulaPages(1);
            y.poke(0, i, 255);
            CHECK.due("poked byte " + i, y.byteAt(0, i), 255);
        }
    }

    private static void noSuchByte() {
        int[][] none = {{-1, 0}, {3, 0}, {0, -1}, {0, 64}, {2, 64}, {3, 63}, {-1, 64}, {1, -64},
            {0, 64 + 5}, {Integer.MIN_VALUE, 0}, {Integer.MAX_VALUE, 0}, {0, Integer.MAX_VALUE},
            {0, Integer.MIN_VALUE}};
        for (int[] at : none) {
            CHECK.dueThrow(ByteAtTest::some, "byteAt " + at[0] + " " + at[1],
                    ArrayIndexOutOfBoundsException.class, x -> x.byteAt(at[0], at[1]));
        }
        for (int pages : new int[] {1, 40}) {
            CHECK.due("last page", new FormulaPages(pages).byteAt(pages - 1, 63), 0);
            CHECK.dueThrow(() -> new FormulaPages(pages), "page " + pages,
                    ArrayIndexOutOfBoundsException.class, x -> x.byteAt(pages, 0));
        }
    }

    private static void changesNothing() {
        Supplier<FormulaPages> some = ByteAtTest::some;
        CHECK.dueSame("byteAt", Check.after(some, x -> x.byteAt(0, 3)), some);
    }
}
