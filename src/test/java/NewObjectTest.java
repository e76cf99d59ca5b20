import java.util.function.Supplier;

/** Promise 1: a new object. */
public final class NewObjectTest {
    private static final Check CHECK = new Check();

    public static void main(String[] args) {
        CHECK.sentence("So many pages", NewObjectTest::soManyPages);
        CHECK.sentence("1 if it is below 1", NewObjectTest::onePageIfBelowOne);
        CHECK.sentence("40 if it is above 40", NewObjectTest::fortyPagesIfAboveForty);
        CHECK.sentence("No name is fed", NewObjectTest::noNameIsFed);
        CHECK.end();
    }

    private static void soManyPages() {
        for (int pages = 1; pages <= 40; pages++) {
            duePages(pages, pages);
        }
    }

    private static void onePageIfBelowOne() {
        duePages(1, 1);
        for (int pages : new int[] {0, -1, -40, Integer.MIN_VALUE}) {
            duePages(pages, 1);
        }
    }

    private static void fortyPagesIfAboveForty() {
        duePages(39, 39);
        duePages(40, 40);
        for (int pages : new int[] {41, 42, 1000, Integer.MAX_VALUE}) {
            duePages(pages, 40);
        }
    }

    private static void duePages(int asked, int due) {
        Supplier<FormulaPages> made = () -> new FormulaPages(asked);
        CHECK.due("count(5) of " + asked, made.get().count(5), due);
        CHECK.due("last page of " + asked, made.get().byteAt(due - 1, 63), 0);
        CHECK.due("page behind the last of " + asked,
                Check.thrownBy(made.get(), x -> x.byteAt(due, 0)),
                "ArrayIndexOutOfBoundsException");
        CHECK.due("used of " + asked, made.get().count(1), 1);
        FormulaPages x = made.get();
        x.poke(due - 1, 63, 1);
        CHECK.due("altered last page of " + asked, Check.thrownBy(x, y -> y.save()),
                "IllegalStateException");
        x.poke(due - 1, 63, 1);
        CHECK.due("names of " + asked, x.count(2), 0);
    }

    private static void noNameIsFed() {
        for (int pages : new int[] {0, 1, 40, 41}) {
            Supplier<FormulaPages> made = () -> new FormulaPages(pages);
            CHECK.dueThrow(made, "put", IllegalStateException.class, x -> x.put(1));
            CHECK.dueThrow(made, "has", IllegalStateException.class, x -> x.has());
            CHECK.dueThrow(made, "find", IllegalStateException.class, x -> x.find());
        }
    }
}
