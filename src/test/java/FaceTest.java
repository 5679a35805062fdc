import java.lang.reflect.Constructor;
import java.lang.reflect.Field;
import java.lang.reflect.Member;
import java.lang.reflect.Method;
import java.lang.reflect.Modifier;
import java.util.Arrays;
import java.util.Set;
import java.util.TreeMap;
import java.util.TreeSet;

/** The public face is the document's, to the letter, and nothing else can be seen from outside. */
public final class FaceTest {
    private static final String[] FACE = {
        "int begin() throws IllegalStateException",
        "int put(int,int) throws IllegalArgumentException,IllegalStateException",
        "int remove(int) throws IllegalArgumentException,IllegalStateException",
        "int commit(int) throws IllegalArgumentException,IllegalStateException",
        "int abort() throws IllegalStateException",
        "int open() throws IllegalStateException",
        "int close(int) throws IndexOutOfBoundsException,IllegalStateException",
        "int get(int) throws IllegalArgumentException",
        "int drafted(int) throws IllegalArgumentException,IllegalStateException",
        "int read(int,int) throws IndexOutOfBoundsException,IllegalArgumentException,IllegalStateException",
        "int entry(int,int) throws IndexOutOfBoundsException,IllegalArgumentException",
        "int root(int,int) throws IndexOutOfBoundsException,IllegalArgumentException",
        "int reader(int,int) throws IndexOutOfBoundsException,IllegalArgumentException",
        "int bed(int,int) throws IndexOutOfBoundsException,IllegalArgumentException",
        "int whole(int) throws IllegalArgumentException",
        "int nextBed()",
        "int bedsFor(int) throws IllegalArgumentException,IllegalStateException",
        "int reason(int) throws IllegalArgumentException,IllegalStateException",
        "int neededWithout(int) throws IndexOutOfBoundsException,IllegalStateException",
        "int changedSince(int) throws IndexOutOfBoundsException,IllegalStateException",
        "int type(int) throws IllegalArgumentException,IllegalStateException",
        "int clearCommands()",
        "int runCommands()",
        "int undo() throws IllegalStateException",
        "long digest()",
    };

    private static String names(Class<?>[] types) {
        return String.join(",", Arrays.stream(types).map(Class::getSimpleName).toList());
    }

    private static String faceOf(Method method) {
        String thrown = names(method.getExceptionTypes());
        return method.getReturnType() + " " + method.getName() + "(" + names(method.getParameterTypes()) + ")"
                + (thrown.isEmpty() ? "" : " throws " + thrown);
    }

    private static void methods() {
        TreeMap<String, Integer> due = new TreeMap<>();
        Set<String> publicNames = new TreeSet<>();
        for (String line : FACE) {
            due.put(line, 1);
            publicNames.add(line.substring(line.indexOf(' ') + 1, line.indexOf('(')));
        }
        TreeMap<String, Integer> got = new TreeMap<>();
        for (Method method : PageGarden.class.getDeclaredMethods()) {
            if (Modifier.isPrivate(method.getModifiers())) {
                Check.due("a private method is named " + method.getName(),
                        publicNames.contains(method.getName()) ? 1 : 0, 0);
            } else {
                got.put(faceOf(method), Modifier.isPublic(method.getModifiers()) ? 1 : 0);
            }
        }
        Check.same("the public methods", got.toString(), due.toString());
    }

    private static boolean isSeen(Member member) {
        return !Modifier.isPrivate(member.getModifiers()) && !member.isSynthetic();
    }

    private static void fields() throws IllegalAccessException {
        for (Field field : PageGarden.class.getDeclaredFields()) {
            boolean isNone = field.getName().equals("NONE");
            Check.due("field " + field.getName() + " can be seen", isSeen(field) ? 1 : 0, isNone ? 1 : 0);
            if (Modifier.isStatic(field.getModifiers())) {
                Check.due("static field " + field.getName() + " is final",
                        Modifier.isFinal(field.getModifiers()) ? 1 : 0, 1);
            }
        }
        Check.due("NONE", PageGarden.NONE, -1000);
    }

    private static void classes() {
        Check.due("the class is public and final", PageGarden.class.getModifiers(), Modifier.PUBLIC | Modifier.FINAL);
        for (Class<?> inside : PageGarden.class.getDeclaredClasses()) {
            Check.due(inside + " is static and not public",
                    inside.getModifiers() & (Modifier.STATIC | Modifier.PUBLIC | Modifier.PROTECTED), Modifier.STATIC);
        }
        int constructors = 0;
        for (Constructor<?> made : PageGarden.class.getDeclaredConstructors()) {
            constructors++;
            Check.due("the constructor is public and takes nothing",
                    Modifier.isPublic(made.getModifiers()) && made.getParameterCount() == 0 ? 1 : 0, 1);
        }
        Check.due("constructors", constructors, 1);
    }

    public static void main(String[] args) throws IllegalAccessException {
        methods();
        fields();
        classes();
        Check.end("FaceTest");
    }
}
