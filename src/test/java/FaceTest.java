import java.lang.reflect.Constructor;
import java.lang.reflect.Field;
import java.lang.reflect.Method;
import java.lang.reflect.Modifier;
import java.util.Arrays;
import java.util.Set;
import java.util.TreeSet;

/** The public face: what the document lists, with its throws, and nothing else that can be seen. */
public final class FaceTest {
    private static final Check CHECK = new Check();

    private static final String[] FACE = {
        "public boolean FormulaPages.feed(int) throws java.lang.IllegalArgumentException",
        "public int FormulaPages.put(int) throws java.lang.IllegalStateException",
        "public boolean FormulaPages.has() throws java.lang.IllegalStateException",
        "public int FormulaPages.find() throws java.lang.IllegalStateException",
        "public int FormulaPages.save() throws java.lang.IllegalStateException",
        "public int FormulaPages.crash(int) throws java.lang.IllegalArgumentException",
        "public void FormulaPages.poke(int,int,int) throws "
                + "java.lang.ArrayIndexOutOfBoundsException,java.lang.IllegalArgumentException",
        "public void FormulaPages.pokeJournal(int,int) throws "
                + "java.lang.ArrayIndexOutOfBoundsException,java.lang.IllegalArgumentException",
        "public int FormulaPages.badAt()",
        "public int FormulaPages.byteAt(int,int) throws java.lang.ArrayIndexOutOfBoundsException",
        "public int FormulaPages.entry(int) throws java.lang.ArrayIndexOutOfBoundsException",
        "public int FormulaPages.count(int) throws java.lang.IllegalStateException",
    };

    public static void main(String[] args) {
        Class<?> face = FormulaPages.class;
        CHECK.due("class", Modifier.toString(face.getModifiers()), "public final");
        Constructor<?>[] constructors = face.getDeclaredConstructors();
        CHECK.due("constructors", constructors.length, 1);
        CHECK.due("constructor", constructors[0].toString(), "public FormulaPages(int)");
        CHECK.due("methods", seenMethods(face), new TreeSet<>(Arrays.asList(FACE)));
        duePrivateNames(face);
        for (Field field : face.getDeclaredFields()) {
            CHECK.due("private " + field, Modifier.isPrivate(field.getModifiers()), true);
        }
        for (Class<?> inside : face.getDeclaredClasses()) {
            CHECK.due("static " + inside, Modifier.isStatic(inside.getModifiers()), true);
            duePrivateNames(inside);
        }
        CHECK.end();
    }

    private static Set<String> seenMethods(Class<?> face) {
        Set<String> seen = new TreeSet<>();
        for (Method method : face.getDeclaredMethods()) {
            if (!Modifier.isPrivate(method.getModifiers())) {
                seen.add(method.toString());
            }
        }
        return seen;
    }

    /** No method but the face's own bears a name of the face. */
    private static void duePrivateNames(Class<?> some) {
        for (Method method : some.getDeclaredMethods()) {
            for (Method of : FormulaPages.class.getMethods()) {
                boolean isOfTheFace = of.getDeclaringClass() == FormulaPages.class;
                CHECK.due(some + " " + method, isOfTheFace && !of.equals(method)
                        && of.getName().equals(method.getName()), false);
            }
        }
    }
}
