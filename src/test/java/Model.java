import java.util.ArrayList;
import java.util.Arrays;
import java.util.List;

/**
 * The document's words taken literally, by other means than the program's: PUT works on a copy of
 * everything, split by split, and a page's bytes are written only when somebody looks.
 */
final class Model {
    static final class Refused extends RuntimeException {
        private static final long serialVersionUID = 1L;
    }

    record Entry(int[] name, int number) {
        boolean isOf(int[] other) {
            return Arrays.equals(name, other);
        }
    }

    static final class Leaf {
        int depth = 0;
        List<Entry> records = new ArrayList<>();

        Leaf copy() {
            Leaf other = new Leaf();
            other.depth = depth;
            other.records = new ArrayList<>(records);
            return other;
        }

        int size() {
            int size = 0;
            for (Entry entry : records) {
                size += entry.name().length + 5;
            }
            return size;
        }
    }

    static final class State {
        List<Leaf> pages = new ArrayList<>();
        List<Boolean> used = new ArrayList<>();
        List<Integer> table = new ArrayList<>(List.of(0));
        int d = 0;
        int acts = 0;

        State copy() {
            State other = new State();
            for (Leaf page : pages) {
                other.pages.add(page.copy());
            }
            other.used = new ArrayList<>(used);
            other.table = new ArrayList<>(table);
            other.d = d;
            other.acts = acts;
            return other;
        }

        int pageOf(int[] name) {
            return table.get((int) (Check.sum(name) % (1L << d)));
        }

        Entry recordOf(int[] name) {
            for (Entry entry : pages.get(pageOf(name)).records) {
                if (entry.isOf(name)) {
                    return entry;
                }
            }
            return null;
        }
    }

    State now = new State();
    State kept;
    final int[][] masks;
    final List<Integer> journal = new ArrayList<>();
    final List<Integer> fed = new ArrayList<>();
    int deepRefusals = 0;
    int pageRefusals = 0;
    int mostSplits = 0;

    Model(int pages) {
        int size = pages < 1 ? 1 : pages > 40 ? 40 : pages;
        for (int i = 0; i < size; i++) {
            now.pages.add(new Leaf());
            now.used.add(i == 0);
        }
        kept = now.copy();
        masks = new int[size][64];
    }

    boolean feed(int b) {
        if (b < 0 || b > 255) {
            throw new IllegalArgumentException();
        }
        if (fed.size() == 12) {
            return false;
        }
        fed.add(b);
        return true;
    }

    int put(int v) {
        requireFed();
        int[] name = takeFed();
        if (journal.size() + name.length + 6 > 600) {
            return -2;
        }
        int before = now.acts;
        State after = now.copy();
        try {
            put(after, name, v);
        } catch (Refused e) {
            return -1;
        }
        now = after;
        journal.addAll(act(name, v));
        return before;
    }

    boolean has() {
        requireFed();
        return now.recordOf(takeFed()) != null;
    }

    int find() {
        requireFed();
        Entry entry = now.recordOf(takeFed());
        return entry == null ? 0 : entry.number();
    }

    int save() {
        requireSound();
        kept = now.copy();
        journal.clear();
        return now.acts;
    }

    int crash(int length) {
        if (length < 0 || length > journal.size()) {
            throw new IllegalArgumentException();
        }
        fed.clear();
        for (int[] row : masks) {
            Arrays.fill(row, 0);
        }
        now = kept.copy();
        journal.subList(length, journal.size()).clear();
        int at = 0;
        while (at < journal.size()) {
            int size = journal.get(at);
            if (size < 1 || size > 12 || at + size + 6 > journal.size()) {
                break;
            }
            int[] name = ints(journal.subList(at + 1, at + 1 + size));
            int v = 0;
            for (int b : journal.subList(at + 1 + size, at + 5 + size)) {
                v = v * 256 + b;
            }
            if (!act(name, v).equals(journal.subList(at, at + size + 6))) {
                break;
            }
            State after = now.copy();
            try {
                put(after, name, v);
            } catch (Refused e) {
                break;
            }
            now = after;
            at += size + 6;
        }
        journal.subList(at, journal.size()).clear();
        return now.acts;
    }

    void poke(int page, int i, int mask) {
        requireByte(page, i);
        requireMask(mask);
        masks[page][i] ^= mask;
    }

    void pokeJournal(int i, int mask) {
        if (i < 0 || i > 599) {
            throw new ArrayIndexOutOfBoundsException();
        }
        requireMask(mask);
        if (i < journal.size()) {
            journal.set(i, journal.get(i) ^ mask);
        }
    }

    int badAt() {
        for (int page = 0; page < masks.length; page++) {
            int[] row = bytes(page);
            long told = 0;
            for (int i = 60; i < 64; i++) {
                told = told * 256 + row[i];
            }
            if (Check.sum(Arrays.copyOf(row, 60)) != told) {
                return page;
            }
        }
        return -1;
    }

    int byteAt(int page, int i) {
        requireByte(page, i);
        return bytes(page)[i];
    }

    int entry(int e) {
        if (e < 0 || e >= now.table.size()) {
            throw new ArrayIndexOutOfBoundsException();
        }
        return now.table.get(e);
    }

    int count(int what) {
        if (what == 2) {
            requireSound();
        }
        int names = 0;
        int used = 0;
        for (int page = 0; page < masks.length; page++) {
            names += now.pages.get(page).records.size();
            used += now.used.get(page) ? 1 : 0;
        }
        int[] answers = {now.d, used, names, now.acts, journal.size(), masks.length};
        return what >= 0 && what < answers.length ? answers[what] : -1;
    }

    private void put(State s, int[] name, int v) {
        for (int splits = 0; ; splits++) {
            Leaf page = s.pages.get(s.pageOf(name));
            Entry old = s.recordOf(name);
            if (old != null) {
                page.records.set(page.records.indexOf(old), new Entry(name, v));
                s.acts++;
                return;
            }
            if (2 + page.size() + name.length + 5 <= 60) {
                page.records.add(new Entry(name, v));
                s.acts++;
                mostSplits = Math.max(mostSplits, splits);
                return;
            }
            split(s, s.pageOf(name));
        }
    }

    private void split(State s, int p) {
        Leaf page = s.pages.get(p);
        int d = page.depth;
        if (d == s.d) {
            if (s.d == 5) {
                deepRefusals++;
                throw new Refused();
            }
            s.d++;
            s.table.addAll(new ArrayList<>(s.table));
        }
        int q = s.used.indexOf(false);
        if (q < 0) {
            pageRefusals++;
            throw new Refused();
        }
        s.used.set(q, true);
        Leaf fresh = s.pages.get(q);
        page.depth = d + 1;
        fresh.depth = d + 1;
        List<Entry> all = page.records;
        page.records = new ArrayList<>();
        for (Entry entry : all) {
            boolean goes = Check.sum(entry.name()) / (1L << d) % 2 == 1;
            (goes ? fresh : page).records.add(entry);
        }
        for (int e = 0; e < s.table.size(); e++) {
            if (s.table.get(e) == p && e / (1 << d) % 2 == 1) {
                s.table.set(e, q);
            }
        }
    }

    int[] bytes(int page) {
        Leaf leaf = now.pages.get(page);
        List<Integer> row = new ArrayList<>(List.of(leaf.depth, leaf.records.size()));
        for (Entry entry : leaf.records) {
            List<Integer> act = act(entry.name(), entry.number());
            row.addAll(act.subList(0, act.size() - 1));
        }
        while (row.size() < 60) {
            row.add(0);
        }
        row.addAll(number((int) Check.sum(ints(row))));
        int[] shown = ints(row);
        for (int i = 0; i < 64; i++) {
            shown[i] ^= masks[page][i];
        }
        return shown;
    }

    static List<Integer> act(int[] name, int v) {
        List<Integer> act = new ArrayList<>();
        act.add(name.length);
        for (int b : name) {
            act.add(b);
        }
        act.addAll(number(v));
        act.add((int) (Check.sum(ints(act)) % 256));
        return act;
    }

    private static List<Integer> number(int v) {
        long whole = Integer.toUnsignedLong(v);
        return List.of((int) (whole / 16777216), (int) (whole / 65536 % 256),
                (int) (whole / 256 % 256), (int) (whole % 256));
    }

    static int[] ints(List<Integer> row) {
        return row.stream().mapToInt(Integer::intValue).toArray();
    }

    private int[] takeFed() {
        int[] name = ints(fed);
        fed.clear();
        return name;
    }

    private void requireFed() {
        requireSound();
        if (fed.isEmpty()) {
            throw new IllegalStateException();
        }
    }

    private void requireSound() {
        for (int[] row : masks) {
            for (int mask : row) {
                if (mask != 0) {
                    throw new IllegalStateException();
                }
            }
        }
    }

    private void requireByte(int page, int i) {
        if (page < 0 || page >= masks.length || i < 0 || i > 63) {
            throw new ArrayIndexOutOfBoundsException();
        }
    }

    private void requireMask(int mask) {
        if (mask < 1 || mask > 255) {
            throw new IllegalArgumentException();
        }
    }
}
