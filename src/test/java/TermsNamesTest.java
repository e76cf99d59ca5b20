import java.util.ArrayList;
import java.util.Arrays;
import java.util.Collections;
import java.util.List;
import java.util.function.Supplier;

/** Terms: names, numbers, SUM and HASH. */
public final class TermsNamesTest {
    private static final Check CHECK = new Check();

    public static void main(String[] args) {
        CHECK.sentence("NAMES are rows of 1 to 12 bytes", TermsNamesTest::lengthsOneToTwelve);
        CHECK.sentence("NAMES are rows of 1 to 12 bytes: none of 0", TermsNamesTest::noLengthZero);
        CHECK.sentence("NAMES are rows of 1 to 12 bytes: none of 13", TermsNamesTest::noThirteen);
        CHECK.sentence("bytes, 0 .. 255", TermsNamesTest::lowestAndHighestBytes);
        CHECK.sentence("each has a number of 32 bits", TermsNamesTest::numbersOfAllSizes);
        CHECK.sentence("The SUM of a row of bytes is 0 at first", TermsNamesTest::sumOfZeros);
        CHECK.sentence("for each byte it becomes (the SUM exclusive-or the byte), turned left by 11"
                + " of its 32 bits, times 0x9E3779B1", TermsNamesTest::sumsByHand);
        CHECK.sentence("as far as 32 bits hold it", TermsNamesTest::sumsThatOverflow);
        CHECK.sentence("The HASH of a name is the SUM of its bytes", TermsNamesTest::hashesByHand);
        CHECK.end();
    }

    private static void lengthsOneToTwelve() {
        for (int length = 1; length <= 12; length++) {
            FormulaPages x = new FormulaPages(1);
            int[] name = Make.name(length, 7);
            for (int b : name) {
                CHECK.due("feed", x.feed(b), true);
            }
            CHECK.due("put of " + length, x.put(-length), 0);
            CHECK.due("record of " + length, Check.bytes(x, 0, 0, 64),
                    Check.page(0, 1, Check.record(-length, name)));
            CHECK.due("find of " + length, Check.find(x, name), -length);
            CHECK.due("has of " + length, Check.has(x, name), true);
            if (length > 1) {
                CHECK.due("has one less", Check.has(x, Make.name(length - 1, 7)), false);
            }
            if (length < 12) {
                CHECK.due("has one more", Check.has(x, Make.name(length + 1, 7)), false);
            }
        }
    }

    private static void noLengthZero() {
        Supplier<FormulaPages> unfed = () -> new FormulaPages(2);
        CHECK.dueThrow(unfed, "put", IllegalStateException.class, x -> x.put(1));
        CHECK.dueThrow(unfed, "has", IllegalStateException.class, x -> x.has());
        CHECK.dueThrow(unfed, "find", IllegalStateException.class, x -> x.find());
    }

    private static void noThirteen() {
        FormulaPages x = new FormulaPages(1);
        Check.feed(x, Make.name(12, 7));
        CHECK.due("feed", x.feed(99), false);
        CHECK.due("put", x.put(5), 0);
        CHECK.due("record", Check.bytes(x, 0, 0, 64),
                Check.page(0, 1, Check.record(5, Make.name(12, 7))));
        CHECK.due("has", Check.has(x, Make.name(12, 7)), true);
    }

    private static void lowestAndHighestBytes() {
        for (int b : new int[] {0, 255}) {
            FormulaPages x = new FormulaPages(1);
            int[] name = new int[12];
            Arrays.fill(name, b);
            CHECK.due("put", Check.put(x, 3, name), 0);
            CHECK.due("record", Check.bytes(x, 0, 3, 15), Collections.nCopies(12, b));
            name[11] = 255 - b;
            CHECK.due("has another", Check.has(x, name), false);
        }
        for (int b : new int[] {-1, 256}) {
            CHECK.dueThrow(() -> new FormulaPages(1), "feed(" + b + ")",
                    IllegalArgumentException.class, x -> x.feed(b));
        }
    }

    private static void numbersOfAllSizes() {
        int[] numbers = {0, 1, -1, 255, 256, 65535, 65536, 1 << 24, Integer.MAX_VALUE,
            Integer.MIN_VALUE, 0x80000001, 0xFF00FF00};
        for (int v : numbers) {
            FormulaPages x = new FormulaPages(1);
            Check.put(x, v, 9);
            CHECK.due("find of " + v, Check.find(x, 9), v);
            CHECK.due("bytes of " + v, Check.bytes(x, 0, 4, 8), Check.fourBytes(v));
            CHECK.due("crash of " + v, x.crash(7), 1);
            CHECK.due("find again of " + v, Check.find(x, 9), v);
        }
    }

    /** A page of zeros alone has the SUM 0; so has one whose name and number are zeros alone. */
    private static void sumOfZeros() {
        FormulaPages x = new FormulaPages(2);
        CHECK.due("sum", Check.bytes(x, 1, 60, 64), List.of(0, 0, 0, 0));
        CHECK.due("badAt", x.badAt(), -1);
        dueSum(0, List.of());
        dueSum(0xBBCD8800L, List.of(1));
    }

    /** The numbers were reckoned apart from this project, with whole numbers of any size. */
    private static void sumsByHand() {
        dueSum(0xE6C40000L, List.of(128));
        dueSum(0x61BBFC7EL, List.of(1, 0));
        dueSum(0xBBCD8800L, List.of(0, 1));
        dueSum(0xB25B93AAL, List.of(1, 2, 3));
        List<Integer> oneAhead = new ArrayList<>(List.of(1));
        oneAhead.addAll(Collections.nCopies(59, 0));
        dueSum(0x59D76917L, oneAhead);
    }

    private static void sumsThatOverflow() {
        dueSum(0x11BA7800L, List.of(255));
        dueSum(0x5E087E7DL, List.of(255, 255));
        dueSum(0xAD74F775L, List.of(200, 100, 50, 25));
        dueSum(0x28AE7B2CL, Collections.nCopies(60, 255));
    }

    /** A page whose last bytes ahead of its SUM are these is BAD with each SUM but this. */
    private static void dueSum(long sum, List<Integer> tail) {
        FormulaPages x = new FormulaPages(2);
        Make.write(x, 1, 60 - tail.size(), tail);
        Make.write(x, 1, 60, Check.fourBytes(sum));
        CHECK.due("badAt with the sum of " + tail, x.badAt(), -1);
        for (int bit = 0; bit < 32; bit++) {
            int i = 63 - bit / 8;
            int mask = 1 << bit % 8;
            x.poke(1, i, mask);
            CHECK.due("badAt with bit " + bit + " wrong", x.badAt(), 1);
            x.poke(1, i, mask);
        }
    }

    /** HASHES reckoned apart from this project; their lowest five bits tell the entry. */
    private static void hashesByHand() {
        dueHash(0x6AFD1000L, 66);
        dueHash(0x70D609A9L, 65, 66);
        dueHash(0xAD74F775L, 200, 100, 50, 25);
        dueHash(0x5E087E7DL, 255, 255);
        dueHash(0xB25B93AAL, 1, 2, 3);
        dueHash(0x34C676DAL, 70, 111, 114, 109, 117, 108, 97);
        dueHash(0x59EBF563L, 1, 2, 3, 4, 5, 6, 7, 8, 9, 10, 11, 12);
        dueHash(0xE1F26C8EL, 255, 255, 255, 255, 255, 255, 255, 255, 255, 255, 255, 255);
        dueHash(0, 0, 0, 0, 0, 0, 0, 0, 0, 0, 0, 0, 0);
    }

    /** All 32 pages are of DEPTH 5, so the page of the name tells five bits of its HASH. */
    private static void dueHash(long hash, int... name) {
        Supplier<FormulaPages> all = () -> Make.allPages(32);
        int page = all.get().entry((int) (hash % 32));
        int before = all.get().byteAt(page, 1);
        FormulaPages x = all.get();
        CHECK.due("put", Check.put(x, 7, name), 144);
        CHECK.due("records in the page of the hash", x.byteAt(page, 1), before + 1);
    }
}
