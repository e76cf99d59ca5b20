import java.util.ArrayList;
import java.util.List;
import java.util.function.Consumer;
import java.util.function.Supplier;

/** What the tests have in common: comparing, feeding, sums and pictures of an object. */
final class Check {
    private int wrong = 0;

    void due(String call, Object got, Object want) {
        if (!got.equals(want)) {
            wrong++;
            System.out.println(call + " answered " + got + ", due is " + want);
        }
    }

    /** The call throws exactly this exception, and the object is as if it had not been called. */
    void dueThrow(Supplier<FormulaPages> make, String call, Class<?> want,
            Consumer<FormulaPages> run) {
        due(call + " throws", thrownBy(make.get(), run), want.getSimpleName());
        due(call + " leaves", picture(after(make, run)), picture(make));
    }

    void end() {
        if (wrong != 0) {
            System.out.println(wrong + " answers are not as due");
            System.exit(1);
        }
    }

    static String thrownBy(FormulaPages x, Consumer<FormulaPages> run) {
        try {
            run.accept(x);
            return "nothing";
        } catch (RuntimeException e) {
            return e.getClass().getSimpleName();
        }
    }

    /** The same object with one call more, whatever that call throws. */
    static Supplier<FormulaPages> after(Supplier<FormulaPages> make, Consumer<FormulaPages> run) {
        return () -> {
            FormulaPages x = make.get();
            thrownBy(x, run);
            return x;
        };
    }

    static void feed(FormulaPages x, int... name) {
        for (int b : name) {
            x.feed(b);
        }
    }

    static int put(FormulaPages x, int v, int... name) {
        feed(x, name);
        return x.put(v);
    }

    static boolean has(FormulaPages x, int... name) {
        feed(x, name);
        return x.has();
    }

    static int find(FormulaPages x, int... name) {
        feed(x, name);
        return x.find();
    }

    /** The SUM, by longs and remainders, so that it is not the program's way of reckoning. */
    static long sum(int... row) {
        long sum = 0;
        for (int b : row) {
            long mixed = sum ^ b;
            long turned = (mixed * 2048) % 4294967296L + mixed / 2097152L;
            sum = Long.remainderUnsigned(turned * 0x9E3779B1L, 4294967296L);
        }
        return sum;
    }

    static List<Integer> bytes(FormulaPages x, int page, int from, int to) {
        List<Integer> row = new ArrayList<>();
        for (int i = from; i < to; i++) {
            row.add(x.byteAt(page, i));
        }
        return row;
    }

    /**
     * All that can be known of an object: what is seen, and what is seen when it loses the journal,
     * reads it again, or puts the name that is fed. Each look is at an object of its own, because
     * no object may be called more than 512 times.
     */
    static String picture(Supplier<FormulaPages> make) {
        return look(make)
                + "\nwithout the journal " + look(after(make, x -> x.crash(0)))
                + "\nby the journal " + look(after(make, x -> x.crash(x.count(4))))
                + "\nwith the fed name " + look(after(make, x -> x.put(77)));
    }

    static String look(Supplier<FormulaPages> make) {
        FormulaPages x = make.get();
        StringBuilder out = new StringBuilder();
        for (int what = 0; what <= 5; what++) {
            int asked = what;
            String thrown = thrownBy(x, y -> y.count(asked));
            out.append(thrown.equals("nothing") ? "" + x.count(what) : thrown).append(' ');
        }
        out.append("bad ").append(x.badAt()).append(" table");
        for (int e = 0; e < 1 << x.count(0); e++) {
            out.append(' ').append(x.entry(e));
        }
        for (int page = 0; page < x.count(5); page++) {
            out.append('\n').append(bytes(make.get(), page, 0, 64));
        }
        return out.toString();
    }

    /** Names of two bytes whose HASHES have these as their lowest bits. */
    static List<int[]> namesWithBits(int bits, int howMany, int most) {
        List<int[]> names = new ArrayList<>();
        for (int i = 0; i < 65536 && names.size() < most; i++) {
            int[] name = {i / 256, i % 256};
            if (sum(name) % (1L << howMany) == bits) {
                names.add(name);
            }
        }
        return names;
    }
}
