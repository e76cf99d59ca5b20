import java.util.Collections;

/** Promise 1: a new object. */
public final class NewObjectTest {
    private static final Check CHECK = new Check();

    public static void main(String[] args) {
        pagesAreHeldBetweenOneAndForty();
        allIsEmptyAtFirst();
        noNameIsFed();
        allIsKeptAtFirst();
        CHECK.end();
    }

    private static void pagesAreHeldBetweenOneAndForty() {
        int[][] askedAndDue = {{Integer.MIN_VALUE, 1}, {-1, 1}, {0, 1}, {1, 1}, {2, 2}, {39, 39},
            {40, 40}, {41, 40}, {Integer.MAX_VALUE, 40}};
        for (int[] pair : askedAndDue) {
            FormulaPages x = new FormulaPages(pair[0]);
            CHECK.due("count(5) of " + pair[0], x.count(5), pair[1]);
            CHECK.due("last page of " + pair[0], x.byteAt(pair[1] - 1, 63), 0);
            CHECK.due("page behind the last of " + pair[0],
                    Check.thrownBy(x, y -> y.byteAt(pair[1], 0)), "ArrayIndexOutOfBoundsException");
        }
    }

    private static void allIsEmptyAtFirst() {
        for (int page = 0; page < 40; page++) {
            CHECK.due("bytes of page " + page, Check.bytes(new FormulaPages(40), page, 0, 64),
                    Collections.nCopies(64, 0));
        }
        FormulaPages x = new FormulaPages(40);
        CHECK.due("badAt", x.badAt(), -1);
        CHECK.due("entry(0)", x.entry(0), 0);
        int[] due = {0, 1, 0, 0, 0, 40};
        for (int what = 0; what < due.length; what++) {
            CHECK.due("count(" + what + ")", x.count(what), due[what]);
        }
    }

    private static void noNameIsFed() {
        FormulaPages x = new FormulaPages(2);
        CHECK.due("put", Check.thrownBy(x, y -> y.put(1)), "IllegalStateException");
    }

    private static void allIsKeptAtFirst() {
        FormulaPages x = new FormulaPages(2);
        Check.put(x, 9, 1);
        CHECK.due("crash(0)", x.crash(0), 0);
        CHECK.due("has", Check.has(x, 1), false);
        CHECK.due("bytes", Check.bytes(x, 0, 0, 64), Collections.nCopies(64, 0));
    }
}
