import java.lang.reflect.Constructor;
import java.lang.reflect.Field;
import java.lang.reflect.Method;
import java.lang.reflect.Modifier;
import java.util.Arrays;
import java.util.Set;
import java.util.TreeSet;

/** The public face: the document's members with what they throw, and no other that can be seen from outside. */
final class FaceTest {
    private static final String[] DUE = {
        "public int bad()", "public int count()", "public int ended()", "public int kind(int) throws NoSuchElementException",
        "public int left()", "public int run(int) throws IllegalArgumentException",
        "public int written(int,int) throws NoSuchElementException,IndexOutOfBoundsException",
        "public long integer(int) throws NoSuchElementException,IllegalStateException",
        "public void adopt(int) throws NoSuchElementException",
        "public void bytes(long,int) throws IllegalArgumentException,IllegalStateException",
        "public void document() throws IllegalArgumentException", "public void query() throws IllegalArgumentException",
        "public void text(long,int) throws IllegalArgumentException,IllegalStateException"
    };

    public static void main(String[] args) {
        Rig.says("public final class QueryMachine {");
        Rig.check("modifiers of the class", Modifier.toString(QueryMachine.class.getModifiers()), "public final");
        Rig.check("members that are not private", seen(), new TreeSet<>(Arrays.asList(DUE)));
        Rig.says("public QueryMachine();");
        Constructor<?>[] constructors = QueryMachine.class.getDeclaredConstructors();
        Rig.check("constructors", Arrays.toString(constructors), "[public QueryMachine()]");
        Rig.end(FaceTest.class);
    }

    private static Set<String> seen() {
        Set<String> seen = new TreeSet<>();
        for (Method method : QueryMachine.class.getDeclaredMethods()) {
            if (!Modifier.isPrivate(method.getModifiers())) {
                seen.add(method.toString().replace("QueryMachine.", "").replaceAll("java\\.(lang|util)\\.", ""));
            }
        }
        for (Field field : QueryMachine.class.getDeclaredFields()) {
            if (!Modifier.isPrivate(field.getModifiers())) {
                seen.add(field.toString());
            }
        }
        return seen;
    }
}
