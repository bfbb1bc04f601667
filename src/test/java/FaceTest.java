import java.lang.reflect.Constructor;
import java.lang.reflect.Field;
import java.lang.reflect.Method;
import java.lang.reflect.Modifier;
import java.util.Set;
import java.util.TreeSet;

/** The public face: what the document has, and nothing else. */
final class FaceTest {
    public static void main(String[] args) {
        int flags = FaultMill.class.getModifiers();
        Bench.due("the class is public and final", "" + (Modifier.isPublic(flags) && Modifier.isFinal(flags)), "true");
        Set<String> seen = new TreeSet<>();
        for (Constructor<?> each : FaultMill.class.getDeclaredConstructors()) {
            seen.add("new" + each.getParameterCount() + Modifier.toString(each.getModifiers()));
        }
        Bench.due("constructors", seen.toString(), "[new0public]");
        methods();
        for (Field each : FaultMill.class.getDeclaredFields()) {
            Bench.due("field " + each.getName(), "" + Modifier.isPrivate(each.getModifiers()), "true");
        }
        for (Class<?> each : FaultMill.class.getDeclaredClasses()) {
            Bench.due("class " + each.getName(), "" + Modifier.isStatic(each.getModifiers()), "true");
        }
        Bench.finish();
    }

    private static void methods() {
        Set<String> seen = new TreeSet<>();
        for (Method each : FaultMill.class.getDeclaredMethods()) {
            if (!Modifier.isPrivate(each.getModifiers())) {
                seen.add(each.toString());
            }
        }
        String all = "java.lang.ArithmeticException,java.lang.NullPointerException,java.lang.ArrayIndexOutOfBoundsException,"
            + "java.lang.ClassCastException,java.lang.NegativeArraySizeException,java.lang.ArrayStoreException,"
            + "java.lang.IllegalStateException";
        Set<String> want = new TreeSet<>();
        want.add("public long FaultMill.op(int,int,int,int) throws " + all);
        want.add("public int FaultMill.load(int,int,int,int,int) throws java.lang.ArrayIndexOutOfBoundsException");
        want.add("public int FaultMill.run(int,int) throws " + all);
        want.add("public long FaultMill.acc()");
        want.add("public int FaultMill.count(int)");
        Bench.due("methods", seen.toString(), want.toString());
    }
}
