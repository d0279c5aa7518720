import java.lang.reflect.Array;
import java.lang.reflect.Constructor;
import java.lang.reflect.Field;
import java.lang.reflect.Method;
import java.lang.reflect.Modifier;
import java.util.Arrays;
import java.util.Set;
import java.util.TreeSet;

/** The public face is the document's and no more, and one object stays small. */
public final class FaceTest {
    private static final String[] FACE = {
        "int fact(boolean,boolean) IllegalStateException",
        "int action(int) IllegalArgumentException IllegalStateException",
        "void link(int,int,int) IndexOutOfBoundsException IllegalArgumentException IllegalStateException",
        "void reset()", "boolean holds(int) IndexOutOfBoundsException",
        "boolean applicable(int) IndexOutOfBoundsException",
        "boolean apply(int) IndexOutOfBoundsException IllegalStateException",
        "int plan()", "int length()", "int step(int)", "int states()",
        "boolean together(int,int) IndexOutOfBoundsException",
        "int level(int,boolean) IndexOutOfBoundsException", "int bound(boolean)", "int cuts()",
        "int cut(int)", "boolean landmark(int) IndexOutOfBoundsException",
        "int draft(int) IndexOutOfBoundsException IllegalStateException",
        "void wipe()", "int check()", "int cost()",
    };

    /** 512 objects of that size still leave half of the one room that all calls of a run share. */
    private static final int MOST_HELD = 7000;

    private FaceTest() {
    }

    public static void main(String[] args) throws IllegalAccessException {
        methods();
        fieldsAndClasses();
        size();
        Due.end();
    }

    private static void methods() {
        Set<String> names = new TreeSet<>();
        for (String text : FACE) {
            names.add(text.replaceAll("^\\w+ (\\w+)\\(.*$", "$1"));
        }
        Set<String> seen = new TreeSet<>();
        for (Method method : CutPlanner.class.getDeclaredMethods()) {
            if (Modifier.isPublic(method.getModifiers())) {
                seen.add(written(method));
            } else if (!Modifier.isPrivate(method.getModifiers()) && !method.isSynthetic()) {
                Due.tell("neither public nor private: " + method);
            } else if (names.contains(method.getName())) {
                Due.tell("private, but named as one of the face: " + method);
            }
        }
        Due.same("the face", seen.toString(), new TreeSet<>(Arrays.asList(FACE)).toString());
        Constructor<?>[] constructors = CutPlanner.class.getDeclaredConstructors();
        Due.is("constructors", constructors.length, 1);
        Due.is("public constructors", CutPlanner.class.getConstructors().length, 1);
        Due.is("its parameters", constructors[0].getParameterCount(), 0);
    }

    private static String written(Method method) {
        StringBuilder text = new StringBuilder();
        text.append(method.getReturnType()).append(' ').append(method.getName()).append('(');
        String comma = "";
        for (Class<?> type : method.getParameterTypes()) {
            text.append(comma).append(type);
            comma = ",";
        }
        text.append(')');
        for (Class<?> thrown : method.getExceptionTypes()) {
            text.append(' ').append(thrown.getSimpleName());
        }
        return text.toString();
    }

    private static void fieldsAndClasses() {
        Due.is("final", Modifier.isFinal(CutPlanner.class.getModifiers()), true);
        for (Field field : CutPlanner.class.getDeclaredFields()) {
            boolean none = field.getName().equals("NONE");
            Due.is("public: " + field, Modifier.isPublic(field.getModifiers()), none);
            Due.is("private: " + field, Modifier.isPrivate(field.getModifiers()), !none);
        }
        for (Class<?> inside : CutPlanner.class.getDeclaredClasses()) {
            Due.is("static: " + inside, Modifier.isStatic(inside.getModifiers()), true);
            Due.is("public: " + inside, Modifier.isPublic(inside.getModifiers()), false);
        }
    }

    private static void size() throws IllegalAccessException {
        CutPlanner planner = new CutPlanner();
        int held = held(planner);
        if (held > MOST_HELD) {
            Due.tell("one object holds " + held + " fields and elements");
        }
        for (int k = 0; k < 10; k++) {
            planner.fact(false, true);
            Due.newAction(planner, 1, "", "" + k, "");
        }
        planner.plan();
        planner.cuts();
        Due.is("held after calls", held(planner), held);
    }

    private static int held(Object object) throws IllegalAccessException {
        if (object.getClass().isArray()) {
            int sum = Array.getLength(object);
            for (int k = 0; k < Array.getLength(object); k++) {
                Object element = Array.get(object, k);
                sum += element != null && element.getClass().isArray() ? held(element) : 0;
            }
            return sum;
        }
        int sum = 0;
        for (Field field : object.getClass().getDeclaredFields()) {
            if (!Modifier.isStatic(field.getModifiers())) {
                field.setAccessible(true);
                Object value = field.get(object);
                sum += field.getType().isPrimitive() || value == null ? 1 : 1 + held(value);
            }
        }
        return sum;
    }
}
