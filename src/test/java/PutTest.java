import java.util.function.Supplier;

/** Promise 3: put. What PUT does in the pages is in TermsPutTest. */
public final class PutTest {
    private static final Check CHECK = new Check();
    private static final int[] ANOTHER = Make.name(12, 9);

    public static void main(String[] args) {
        CHECK.sentence("how many ACTS there were ahead of it", PutTest::actsAheadOfIt);
        CHECK.sentence("-1 if it is REFUSED", PutTest::minusOneIfRefused);
        CHECK.sentence("-2 if the JOURNAL has no room for it", PutTest::minusTwoIfNoRoom);
        CHECK.sentence("then nothing is PUT", PutTest::nothingIsPutThen);
        CHECK.sentence("and it isn't looked at whether it would be REFUSED",
                PutTest::minusTwoAheadOfMinusOne);
        CHECK.sentence("No name is FED then, either way", PutTest::noNameIsFedThen);
        CHECK.sentence("IllegalStateException: none is FED", PutTest::noneIsFed);
        CHECK.end();
    }

    /** Of new names and known ones; none for what is refused or has no room in the journal. */
    private static void actsAheadOfIt() {
        FormulaPages x = new FormulaPages(1);
        for (int i = 0; i < 20; i++) {
            CHECK.due("put " + i, Check.put(x, i, i % 9), i);
        }
        CHECK.due("refused", Check.put(x, 1, 9), -1);
        CHECK.due("after a refusal", Check.put(x, 1, 8), 20);
        x.save();
        CHECK.due("after a save", Check.put(x, 1, 8), 21);
        x.crash(6);
        CHECK.due("after a crash", Check.put(x, 1, 8), 21);
        FormulaPages full = Make.journalOf(600);
        int acts = full.count(3);
        CHECK.due("no room", Check.put(full, 1, 8), -2);
        full.save();
        CHECK.due("after no room", Check.put(full, 1, 8), acts);
    }

    private static void minusOneIfRefused() {
        CHECK.due("a page too few", Check.put(Make.eight(1), 1, Make.ninth(1)), -1);
        CHECK.due("enough pages", Check.put(Make.eight(2), 1, Make.ninth(1)), 8);
        CHECK.due("D above 5", Check.put(Make.eight(40), 1, Make.ninth(6)), -1);
        CHECK.due("D 5", Check.put(Make.eight(40), 1, Make.ninth(5)), 8);
    }

    /** An act of twelve bytes and a number takes 18, one of one byte 7. */
    private static void minusTwoIfNoRoom() {
        FormulaPages x = Make.journalOf(582);
        CHECK.due("18 bytes left", Check.put(x, 1, ANOTHER) >= 0, true);
        CHECK.due("17 bytes left", Check.put(Make.journalOf(583), 1, ANOTHER), -2);
        CHECK.due("7 bytes left", Check.put(Make.journalOf(593), 1, 9) >= 0, true);
        CHECK.due("6 bytes left", Check.put(Make.journalOf(594), 1, 9), -2);
        CHECK.due("none left", Check.put(Make.journalOf(600), 1, 9), -2);
    }

    /** Neither a new name nor another number of a known one. */
    private static void nothingIsPutThen() {
        Supplier<FormulaPages> full = () -> Make.journalOf(594);
        CHECK.dueSame("new", Check.after(full, x -> Check.put(x, 5, 9)), full);
        CHECK.dueSame("known", Check.after(full, x -> Check.put(x, 5, Make.name(12, 1))), full);
    }

    private static void minusTwoAheadOfMinusOne() {
        FormulaPages x = Make.filledTo(1, 58);
        CHECK.due("refused", Check.put(x, 1, ANOTHER), -1);
        int[] known = {200, 200, 200, 200, 200, 200, 200, 200, 200};
        for (int i = 0; i < 34; i++) {
            Check.put(x, 1, known);
        }
        CHECK.due("journal", x.count(4), 62 + 34 * 15);
        CHECK.due("refused still", Check.put(x, 1, ANOTHER), -1);
        Check.put(x, 1, known);
        CHECK.due("and no room", Check.put(x, 1, ANOTHER), -2);
        CHECK.due("refused, but room", Check.put(x, 1, 9), -1);
    }

    private static void noNameIsFedThen() {
        CHECK.due("after a put", nextCall(new FormulaPages(1)), "IllegalStateException");
        CHECK.due("after a refusal", nextCall(Make.filledTo(1, 58)), "IllegalStateException");
        CHECK.due("after no room", nextCall(Make.journalOf(600)), "IllegalStateException");
        FormulaPages x = new FormulaPages(1);
        Check.put(x, 1, 5, 6);
        Check.put(x, 2, 7);
        CHECK.due("the next name begins anew", Check.find(x, 7), 2);
    }

    private static String nextCall(FormulaPages x) {
        Check.put(x, 1, ANOTHER);
        return Check.thrownBy(x, y -> y.put(1));
    }

    private static void noneIsFed() {
        CHECK.dueThrow(() -> new FormulaPages(2), "at first", IllegalStateException.class,
                x -> x.put(1));
        CHECK.dueThrow(() -> Make.deep(3, 1), "after acts", IllegalStateException.class,
                x -> x.put(Integer.MIN_VALUE));
        CHECK.dueThrow(() -> Make.journalOf(600), "with no room", IllegalStateException.class,
                x -> x.put(1));
        FormulaPages x = new FormulaPages(1);
        x.feed(0);
        CHECK.due("one byte is fed", x.put(1), 0);
    }
}
