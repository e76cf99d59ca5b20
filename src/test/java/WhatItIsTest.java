/** The section "What it is": how long an object is used. */
public final class WhatItIsTest {
    private static final Check CHECK = new Check();

    public static void main(String[] args) {
        CHECK.sentence("An object is used for at most 512 calls after it has been made",
                WhatItIsTest::theLastCallsAnswerToo);
        CHECK.end();
    }

    /** As many acts as 512 calls can hold: 254 of one byte and a number, with two saves. */
    private static void theLastCallsAnswerToo() {
        FormulaPages x = new FormulaPages(1);
        for (int act = 0; act < 254; act++) {
            if (act == 85 || act == 170) {
                CHECK.due("save", x.save(), act);
            }
            CHECK.due("feed", x.feed(act % 9), true);
            CHECK.due("put", x.put(act), act);
        }
        CHECK.due("call 511", x.count(4), 84 * 7);
        CHECK.due("call 512", x.crash(84 * 7), 254);
    }
}
