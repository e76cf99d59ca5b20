import java.util.ArrayList;
import java.util.Arrays;
import java.util.HashMap;
import java.util.List;
import java.util.Map;

/** Names and objects that stand at the document's bounds. */
final class Make {
    /** The lowest five bits of the HASHES that the names of eight() have. */
    static final int BITS = 0b01010;

    private static final Map<List<Integer>, List<int[]>> FOUND = new HashMap<>();

    private Make() {
    }

    /** A name of so many bytes; two with different seeds below 200 are different. */
    static int[] name(int length, int seed) {
        int[] name = new int[length];
        for (int i = 0; i < length; i++) {
            name[i] = (seed + 20 * i) & 255;
        }
        return name;
    }

    /** One name that is kept, with the number -5, and one that is in the journal, with 0. */
    static FormulaPages twoNames() {
        FormulaPages x = new FormulaPages(3);
        Check.put(x, -5, 1);
        x.save();
        Check.put(x, 0, 255, 0);
        return x;
    }

    /** Ten names of two bytes kept, with a split among them; four in the journal, 8 bytes each. */
    static FormulaPages keptAndMore() {
        FormulaPages x = new FormulaPages(3);
        for (int b = 0; b < 10; b++) {
            Check.put(x, b + 100, b, 0);
        }
        x.save();
        for (int b = 10; b < 14; b++) {
            Check.put(x, b + 100, b, 0);
        }
        return x;
    }

    /** Names of two bytes whose HASHES have these as their lowest bits. */
    static List<int[]> namesWithBits(int bits, int howMany, int most) {
        return FOUND.computeIfAbsent(List.of(bits, howMany, most),
                key -> search(bits, howMany, most));
    }

    private static List<int[]> search(int bits, int howMany, int most) {
        List<int[]> names = new ArrayList<>();
        for (int i = 0; i < 65536 && names.size() < most; i++) {
            int[] name = {i / 256, i % 256};
            if (Check.sum(name) % (1L << howMany) == bits) {
                names.add(name);
            }
        }
        return names;
    }

    /** As many names as there is room for in a page, which no split up to D = 5 takes apart. */
    static FormulaPages eight(int pages) {
        FormulaPages x = new FormulaPages(pages);
        Check.putAll(x, 1, namesWithBits(BITS, 5, 8));
        return x;
    }

    /**
     * A ninth name that just so many splits of eight() take apart from the others: 1 to 5, or 6,
     * which are too many.
     */
    static int[] ninth(int splits) {
        int six = (int) (Check.sum(namesWithBits(BITS, 5, 8).get(0)) % 64);
        return namesWithBits(six ^ (1 << (splits - 1)), 6, 1).get(0);
    }

    /** A ninth name that no split takes apart from the names of eight(). */
    static int[] alike() {
        return namesWithBits(BITS, 5, 9).get(8);
    }

    /** An object whose D is this, 0 to 5, by splits one behind the other; d + 1 pages are USED. */
    static FormulaPages deep(int pages, int d) {
        FormulaPages x = eight(pages);
        if (d > 0) {
            Check.put(x, 1, ninth(d));
        }
        return x;
    }

    /**
     * The names that make 32 pages USED, all of DEPTH 5: nine for each four bits, and no page has
     * room for nine, so each page of DEPTH 4 splits; five go to the one side and four to the other.
     */
    static List<int[]> namesForAllPages() {
        List<int[]> names = new ArrayList<>();
        for (int bits = 0; bits < 16; bits++) {
            names.addAll(namesWithBits(bits, 5, 5));
            names.addAll(namesWithBits(bits + 16, 5, 4));
        }
        return names;
    }

    /** All of them put; the answer of the last is left to the caller. It takes 434 calls. */
    static FormulaPages allPagesButTheLast(int pages) {
        FormulaPages x = new FormulaPages(pages);
        List<int[]> names = namesForAllPages();
        Check.putAll(x, 1, names.subList(0, 75));
        x.save();
        Check.putAll(x, 1, names.subList(75, names.size() - 1));
        return x;
    }

    static FormulaPages allPages(int pages) {
        FormulaPages x = allPagesButTheLast(pages);
        Check.put(x, 1, namesForAllPages().get(143));
        return x;
    }

    /** Page 0 with records of so many bytes in all, 0 or 6 to 58. Their names begin with 200 up. */
    static FormulaPages filledTo(int pages, int bytes) {
        FormulaPages x = new FormulaPages(pages);
        int records = (bytes + 16) / 17;
        for (int r = 0; r < records; r++) {
            int size = bytes * (r + 1) / records - bytes * r / records;
            int[] name = new int[size - 5];
            Arrays.fill(name, 200 + r);
            Check.put(x, -1, name);
        }
        return x;
    }

    /** A journal of so many bytes, 14 to 600, from acts of three names that are put again. */
    static FormulaPages journalOf(int bytes) {
        FormulaPages x = new FormulaPages(40);
        int longActs = (bytes - 14) / 18;
        for (int i = 0; i < longActs; i++) {
            Check.put(x, i, name(12, 1));
        }
        int rest = bytes - 18 * longActs;
        Check.put(x, 100, name(rest / 2 - 6, 2));
        Check.put(x, 101, name(rest - rest / 2 - 6, 3));
        return x;
    }

    /** Writes another row over bytes of the journal that are known. */
    static void forge(FormulaPages x, int at, List<Integer> was, List<Integer> due) {
        for (int i = 0; i < due.size(); i++) {
            int mask = was.get(i) ^ due.get(i);
            if (mask != 0) {
                x.pokeJournal(at + i, mask);
            }
        }
    }

    /** Writes a row of bytes from a place on over an empty page, which then is altered. */
    static void write(FormulaPages x, int page, int at, List<Integer> row) {
        for (int i = 0; i < row.size(); i++) {
            if (row.get(i) != 0) {
                x.poke(page, at + i, row.get(i));
            }
        }
    }
}
