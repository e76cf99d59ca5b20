import java.util.ArrayList;
import java.util.Arrays;
import java.util.List;
import java.util.Random;

/** Runs of calls by a fixed seed, each answer compared with the literal model's. */
public final class ModelTest {
    private static final int RUNS = 2500;
    private static final int MOST_CALLS = 440;
    private static final int[] PAGES = {-3, 0, 1, 2, 3, 4, 5, 8, 16, 31, 32, 33, 39, 40, 41, 99};

    private final Check check = new Check();
    private final Random random = new Random(20261116);
    private List<int[]> calls;
    private List<int[]> names;
    private FormulaPages program;
    private Model model;
    private int seenDeepRefusals = 0;
    private int seenPageRefusals = 0;
    private int seenManySplits = 0;
    private int seenFullJournals = 0;
    private int seenDepthFive = 0;

    public static void main(String[] args) {
        ModelTest test = new ModelTest();
        for (int run = 0; run < RUNS; run++) {
            test.run(run);
        }
        test.dueSeen();
        test.check.end();
    }

    private void run(int run) {
        int pages = PAGES[random.nextInt(PAGES.length)];
        program = new FormulaPages(pages);
        model = new Model(pages);
        calls = new ArrayList<>();
        names = somePool();
        int kind = random.nextInt(4);
        while (calls.size() < MOST_CALLS) {
            if (kind == 0) {
                growing();
            } else {
                anything();
            }
        }
        compareWhole(run, pages);
        seenDeepRefusals += model.deepRefusals;
        seenPageRefusals += model.pageRefusals;
        seenManySplits += model.mostSplits >= 3 ? 1 : 0;
        seenDepthFive += model.now.d == 5 ? 1 : 0;
    }

    /** A random run that never comes to an edge would prove little. */
    private void dueSeen() {
        int[] seen = {seenDeepRefusals, seenPageRefusals, seenManySplits, seenFullJournals,
            seenDepthFive};
        for (int i = 0; i < seen.length; i++) {
            check.due("edge " + i + " was met", seen[i] > 20, true);
        }
    }

    private List<int[]> somePool() {
        switch (random.nextInt(5)) {
            case 0:
                return Make.namesWithBits(random.nextInt(32), 5, 40);
            case 1:
                return Make.namesWithBits(random.nextInt(4), 2, 200);
            case 2:
                return Make.namesWithBits(0, 0, 65536);
            default:
                return mixedPool();
        }
    }

    private List<int[]> mixedPool() {
        List<int[]> pool = new ArrayList<>();
        int size = 5 + random.nextInt(60);
        for (int i = 0; i < size; i++) {
            int[] name = new int[1 + random.nextInt(12)];
            for (int k = 0; k < name.length; k++) {
                name[k] = random.nextInt(256);
            }
            pool.add(name);
        }
        return pool;
    }

    private void growing() {
        feedName();
        call(1, random.nextInt(), 0, 0);
        if (model.journal.size() > 580 && random.nextInt(3) == 0) {
            call(4, 0, 0, 0);
        }
    }

    private void anything() {
        int dice = random.nextInt(100);
        if (dice < 45) {
            feedName();
            call(1, random.nextInt(), 0, 0);
        } else if (dice < 65) {
            feedName();
            call(2 + random.nextInt(2), 0, 0, 0);
        } else if (dice < 67) {
            call(4, 0, 0, 0);
        } else if (dice < 70) {
            call(5, random.nextInt(model.journal.size() + 3) - 1, 0, 0);
        } else if (dice < 72) {
            call(5, model.journal.size(), 0, 0);
        } else if (dice < 78) {
            pokes();
        } else if (dice < 82) {
            call(7, random.nextInt(603) - 1, random.nextInt(258) - 1, 0);
        } else if (dice < 85) {
            forge();
        } else if (dice < 88) {
            call(0, random.nextInt(260) - 2, 0, 0);
        } else {
            look();
        }
    }

    private void look() {
        call(8, 0, 0, 0);
        call(9, random.nextInt(model.masks.length + 2) - 1, random.nextInt(66) - 1, 0);
        call(10, random.nextInt(model.now.table.size() + 2) - 1, 0, 0);
        call(11, random.nextInt(9) - 2, 0, 0);
    }

    private void feedName() {
        for (int b : names.get(random.nextInt(names.size()))) {
            call(0, b, 0, 0);
        }
    }

    /** Mostly the pokes are taken back, for else nearly all later calls would throw. */
    private void pokes() {
        int page = random.nextInt(model.masks.length + 2) - 1;
        int i = random.nextInt(66) - 1;
        int mask = random.nextInt(258) - 1;
        call(6, page, i, mask);
        if (random.nextInt(3) == 0) {
            anything();
        }
        if (random.nextInt(8) > 0) {
            call(8, 0, 0, 0);
            call(6, page, i, mask);
        }
    }

    /** Writes another whole act over one in the journal, now and then with a length astray. */
    private void forge() {
        int at = 0;
        int skipped = random.nextInt(12);
        while (at < model.journal.size() && skipped > 0) {
            at += model.journal.get(at) + 6;
            skipped--;
        }
        if (at >= model.journal.size() || model.journal.get(at) > 12) {
            return;
        }
        int[] name = new int[model.journal.get(at) + random.nextInt(30) / 29];
        for (int k = 0; k < name.length; k++) {
            name[k] = random.nextInt(256);
        }
        List<Integer> act = Model.act(name, random.nextInt());
        for (int i = 0; i < act.size() && at + i < model.journal.size(); i++) {
            int mask = act.get(i) ^ model.journal.get(at + i);
            if (mask != 0) {
                call(7, at + i, mask, 0);
            }
        }
        if (random.nextBoolean()) {
            call(5, model.journal.size(), 0, 0);
        }
    }

    private void call(int op, int a, int b, int c) {
        if (calls.size() >= MOST_CALLS) {
            return;
        }
        int[] call = {op, a, b, c};
        calls.add(call);
        String want = answer(call, null, model);
        String got = answer(call, program, null);
        if (!got.equals(want)) {
            StringBuilder all = new StringBuilder();
            for (int[] each : calls) {
                all.append(Arrays.toString(each));
            }
            check.due("after " + all, got, want);
        }
        seenFullJournals += op == 1 && want.equals("-2") ? 1 : 0;
    }

    private static String answer(int[] call, FormulaPages x, Model m) {
        try {
            return x != null ? ask(call, x) : ask(call, m);
        } catch (RuntimeException e) {
            return e.getClass().getSimpleName();
        }
    }

    private static String ask(int[] c, FormulaPages x) {
        switch (c[0]) {
            case 0: return "" + x.feed(c[1]);
            case 1: return "" + x.put(c[1]);
            case 2: return "" + x.has();
            case 3: return "" + x.find();
            case 4: return "" + x.save();
            case 5: return "" + x.crash(c[1]);
            case 6: x.poke(c[1], c[2], c[3]); return "";
            case 7: x.pokeJournal(c[1], c[2]); return "";
            case 8: return "" + x.badAt();
            case 9: return "" + x.byteAt(c[1], c[2]);
            case 10: return "" + x.entry(c[1]);
            default: return "" + x.count(c[1]);
        }
    }

    private static String ask(int[] c, Model m) {
        switch (c[0]) {
            case 0: return "" + m.feed(c[1]);
            case 1: return "" + m.put(c[1]);
            case 2: return "" + m.has();
            case 3: return "" + m.find();
            case 4: return "" + m.save();
            case 5: return "" + m.crash(c[1]);
            case 6: m.poke(c[1], c[2], c[3]); return "";
            case 7: m.pokeJournal(c[1], c[2]); return "";
            case 8: return "" + m.badAt();
            case 9: return "" + m.byteAt(c[1], c[2]);
            case 10: return "" + m.entry(c[1]);
            default: return "" + m.count(c[1]);
        }
    }

    private void compareWhole(int run, int pages) {
        for (int page = 0; page < model.masks.length; page++) {
            FormulaPages again = new FormulaPages(pages);
            for (int[] call : calls) {
                answer(call, again, null);
            }
            List<Integer> want = new ArrayList<>();
            for (int b : model.bytes(page)) {
                want.add(b);
            }
            check.due("run " + run + " page " + page, Check.bytes(again, page, 0, 64), want);
        }
        for (int e = 0; e < model.now.table.size(); e++) {
            check.due("run " + run + " entry " + e, program.entry(e), model.entry(e));
        }
        for (int what = 0; what <= 5; what++) {
            int[] call = {11, what, 0, 0};
            check.due("run " + run + " count " + what, answer(call, program, null),
                    answer(call, null, model));
        }
    }
}
