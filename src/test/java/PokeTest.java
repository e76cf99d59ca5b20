import java.util.List;
import java.util.function.Supplier;

/** Promise 8: poke. */
public final class PokeTest {
    private static final Check CHECK = new Check();

    public static void main(String[] args) {
        CHECK.sentence("A byte of a page gets the bits of a mask the other way round",
                PokeTest::bitsTheOtherWayRound);
        CHECK.sentence("its SUM isn't put right", PokeTest::sumStays);
        CHECK.sentence("By the same mask again it is what it was", PokeTest::sameMaskAgain);
        CHECK.sentence("IllegalArgumentException: the mask isn't 1 .. 255", PokeTest::wrongMasks);
        CHECK.sentence("ArrayIndexOutOfBoundsException: no such page, byte",
                PokeTest::noSuchByte);
        CHECK.end();
    }

    private static Supplier<FormulaPages> fed() {
        return Check.after(Make::keptAndMore, x -> x.feed(9));
    }

    /** The first and last byte of the first and last page, by the least and the greatest mask. */
    private static void bitsTheOtherWayRound() {
        for (int page : new int[] {0, 2}) {
            for (int i : new int[] {0, 1, 59, 60, 63}) {
                for (int mask : new int[] {1, 128, 255}) {
                    List<Integer> due = Check.bytes(fed().get(), page, 0, 64);
                    due.set(i, due.get(i) ^ mask);
                    FormulaPages x = fed().get();
                    x.poke(page, i, mask);
                    CHECK.due("page " + page + " by " + mask + " at " + i,
                            Check.bytes(x, page, 0, 64), due);
                    CHECK.due("page 1", Check.bytes(x, 1, 0, 64),
                            Check.bytes(fed().get(), 1, 0, 64));
                }
            }
        }
        FormulaPages twice = fed().get();
        twice.poke(2, 7, 0b0011);
        twice.poke(2, 7, 0b0110);
        CHECK.due("twice", twice.byteAt(2, 7), 0b0101);
    }

    private static void sumStays() {
        FormulaPages x = fed().get();
        List<Integer> sum = Check.bytes(x, 0, 60, 64);
        for (int i = 0; i < 60; i++) {
            x.poke(0, i, 255);
        }
        CHECK.due("sum", Check.bytes(x, 0, 60, 64), sum);
        CHECK.due("badAt", x.badAt(), 0);
    }

    private static void sameMaskAgain() {
        for (int[] at : new int[][] {{0, 0}, {0, 63}, {1, 30}, {2, 0}, {2, 63}}) {
            for (int mask : new int[] {1, 255}) {
                CHECK.dueSame("twice", Check.after(fed(), x -> {
                    x.poke(at[0], at[1], mask);
                    x.poke(at[0], at[1], mask);
                }), fed());
            }
        }
    }

    private static void wrongMasks() {
        Supplier<FormulaPages> altered = Check.after(fed(), x -> x.poke(0, 5, 3));
        for (int mask : new int[] {1, 255}) {
            CHECK.due("mask " + mask, Check.thrownBy(fed().get(), x -> x.poke(2, 63, mask)),
                    "nothing");
        }
        for (int mask : new int[] {0, 256, -1, -255, 257, Integer.MIN_VALUE, Integer.MAX_VALUE}) {
            CHECK.dueThrow(fed(), "mask " + mask, IllegalArgumentException.class,
                    x -> x.poke(2, 63, mask));
            CHECK.dueThrowAltered(altered, x -> x.poke(0, 5, 3), "mask " + mask,
                    IllegalArgumentException.class, x -> x.poke(0, 5, mask));
        }
    }

    /** With a wrong mask too, for that comes behind. */
    private static void noSuchByte() {
        int[][] none = {{-1, 0}, {3, 0}, {0, -1}, {0, 64}, {2, 64}, {3, 63}, {-1, 64}, {1, -64},
            {Integer.MAX_VALUE, 0}, {Integer.MIN_VALUE, 0}, {0, Integer.MAX_VALUE},
            {0, Integer.MIN_VALUE}};
        for (int[] at : none) {
            for (int mask : new int[] {1, 255, 0, 256}) {
                CHECK.dueThrow(fed(), "poke " + at[0] + " " + at[1],
                        ArrayIndexOutOfBoundsException.class, x -> x.poke(at[0], at[1], mask));
            }
        }
    }
}
