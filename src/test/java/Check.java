import java.util.ArrayList;
import java.util.List;
import java.util.function.Consumer;
import java.util.function.Supplier;

/** What the tests have in common: comparing, feeding, sums and pictures of an object. */
final class Check {
    private int wrong = 0;
    private String sentence = "";

    /** What tests a sentence of the document; what is not as due there is told with its words. */
    void sentence(String words, Runnable test) {
        sentence = "\"" + words + "\": ";
        try {
            test.run();
        } catch (RuntimeException e) {
            e.printStackTrace(System.out);
            due("the test", e.getClass().getSimpleName(), "no exception");
        }
        sentence = "";
    }

    void due(String call, Object got, Object want) {
        if (!got.equals(want)) {
            wrong++;
            System.out.println(sentence + call + " answered " + got + ", due is " + want);
        }
    }

    /** The call throws exactly this exception, and the object is as if it had not been called. */
    void dueThrow(Supplier<FormulaPages> make, String call, Class<?> want,
            Consumer<FormulaPages> run) {
        due(call + " throws", thrownBy(make.get(), run), want.getSimpleName());
        dueSame(call + " leaves", after(make, run), make);
    }

    /**
     * The same for an object with an altered page. Its fed name can be seen only when the page is
     * as it was, so the pictures are taken once more behind what makes it so.
     */
    void dueThrowAltered(Supplier<FormulaPages> make, Consumer<FormulaPages> mend, String call,
            Class<?> want, Consumer<FormulaPages> run) {
        dueThrow(make, call, want, run);
        dueSame(call + " leaves, mended", after(after(make, run), mend), after(make, mend));
    }

    void dueSame(String call, Supplier<FormulaPages> got, Supplier<FormulaPages> want) {
        due(call, picture(got), picture(want));
    }

    void end() {
        if (wrong != 0) {
            System.out.println(wrong + " answers are not as due");
            System.exit(1);
        }
    }

    static String thrownBy(FormulaPages x, Consumer<FormulaPages> run) {
        try {
            run.accept(x);
            return "nothing";
        } catch (RuntimeException e) {
            return e.getClass().getSimpleName();
        }
    }

    /** The same object with one call more, whatever that call throws. */
    static Supplier<FormulaPages> after(Supplier<FormulaPages> make, Consumer<FormulaPages> run) {
        return () -> {
            FormulaPages x = make.get();
            thrownBy(x, run);
            return x;
        };
    }

    static void feed(FormulaPages x, int... name) {
        for (int b : name) {
            x.feed(b);
        }
    }

    static int put(FormulaPages x, int v, int... name) {
        feed(x, name);
        return x.put(v);
    }

    static void putAll(FormulaPages x, int v, List<int[]> names) {
        for (int[] name : names) {
            put(x, v, name);
        }
    }

    static boolean has(FormulaPages x, int... name) {
        feed(x, name);
        return x.has();
    }

    static int find(FormulaPages x, int... name) {
        feed(x, name);
        return x.find();
    }

    /** The SUM, by longs and remainders, so that it is not the program's way of reckoning. */
    static long sum(int... row) {
        long sum = 0;
        for (int b : row) {
            long mixed = sum ^ b;
            long turned = (mixed * 2048) % 4294967296L + mixed / 2097152L;
            sum = Long.remainderUnsigned(turned * 0x9E3779B1L, 4294967296L);
        }
        return sum;
    }

    static List<Integer> bytes(FormulaPages x, int page, int from, int to) {
        List<Integer> row = new ArrayList<>();
        for (int i = from; i < to; i++) {
            row.add(x.byteAt(page, i));
        }
        return row;
    }

    static List<Integer> table(FormulaPages x) {
        List<Integer> table = new ArrayList<>();
        int entries = 1 << x.count(0);
        for (int e = 0; e < entries; e++) {
            table.add(x.entry(e));
        }
        return table;
    }

    /** What the four bytes are of a number or a SUM, the highest first. */
    static List<Integer> fourBytes(long number) {
        return List.of((int) (number >> 24 & 255), (int) (number >> 16 & 255),
                (int) (number >> 8 & 255), (int) (number & 255));
    }

    /** A whole page as it is due: DEPTH, records, zeros, SUM. */
    static List<Integer> page(int depth, int records, List<Integer> bytes) {
        List<Integer> page = new ArrayList<>(List.of(depth, records));
        page.addAll(bytes);
        while (page.size() < 60) {
            page.add(0);
        }
        page.addAll(fourBytes(sum(Model.ints(page))));
        return page;
    }

    /** What a record is: an act of the journal without its last byte. */
    static List<Integer> record(int v, int... name) {
        List<Integer> act = Model.act(name, v);
        return act.subList(0, act.size() - 1);
    }

    /**
     * All that can be known of an object: what is seen, and what is seen when it loses the journal,
     * reads it again, or puts the name that is fed. Each look is at an object of its own, because
     * no object may be called more than 512 times.
     */
    static String picture(Supplier<FormulaPages> make) {
        return look(make)
                + "\nwithout the journal " + look(after(make, x -> x.crash(0)))
                + "\nby the journal " + look(after(make, x -> x.crash(x.count(4))))
                + "\nwith the fed name " + look(after(make, x -> x.put(77)));
    }

    static String look(Supplier<FormulaPages> make) {
        FormulaPages x = make.get();
        StringBuilder out = new StringBuilder();
        for (int what = 0; what <= 5; what++) {
            int asked = what;
            String thrown = thrownBy(x, y -> out.append(y.count(asked)));
            out.append(thrown.equals("nothing") ? "" : thrown).append(' ');
        }
        out.append("bad ").append(x.badAt()).append(" table ").append(table(x));
        int pages = x.count(5);
        for (int page = 0; page < pages; page++) {
            out.append('\n').append(bytes(make.get(), page, 0, 64));
        }
        return out.toString();
    }
}
