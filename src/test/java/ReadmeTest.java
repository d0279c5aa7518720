import java.io.IOException;
import java.lang.reflect.Method;
import java.lang.reflect.Modifier;
import java.nio.file.Files;
import java.nio.file.Path;
import java.util.ArrayList;
import java.util.List;

/** What README.md says of the class is so; it is read from the directory that .ci/run works in. */
public final class ReadmeTest {
    private static final List<String> EXAMPLE = new ArrayList<>();
    private static int at = 0;

    private ReadmeTest() {
    }

    public static void main(String[] args) throws IOException {
        List<String> lines = Files.readAllLines(Path.of("README.md"));
        readExample(lines);
        example();
        table(lines);
        Due.end();
    }

    private static void readExample(List<String> lines) {
        boolean inside = false;
        for (String line : lines) {
            if (line.startsWith("```")) {
                inside = line.equals("```java");
            } else if (inside && !line.isBlank()) {
                EXAMPLE.add(line);
            }
        }
    }

    private static void example() {
        CutPlanner planner = new CutPlanner();
        next("CutPlanner planner = new CutPlanner();");
        int home = planner.fact(true, false);
        answers("int home = planner.fact(true, false);", home);
        int work = planner.fact(false, true);
        answers("int work = planner.fact(false, true);", work);
        int walk = planner.action(5);
        answers("int walk = planner.action(5);", walk);
        int ride = planner.action(2);
        answers("int ride = planner.action(2);", ride);
        planner.link(0, walk, home);
        next("planner.link(0, walk, home);");
        planner.link(1, walk, work);
        next("planner.link(1, walk, work);");
        planner.link(2, walk, home);
        next("planner.link(2, walk, home);");
        planner.link(0, ride, work);
        next("planner.link(0, ride, work);");
        planner.link(1, ride, home);
        next("planner.link(1, ride, home);");
        questions(planner, home, work, walk);
        Due.is("lines of the example that were gone over", at, EXAMPLE.size());
    }

    private static void questions(CutPlanner planner, int home, int work, int walk) {
        answers("planner.plan();", planner.plan());
        answers("planner.length();", planner.length());
        answers("planner.step(0);", planner.step(0));
        answers("planner.step(1);", planner.step(1));
        answers("planner.states();", planner.states());
        answers("planner.together(home, work);", planner.together(home, work));
        answers("planner.level(work, false);", planner.level(work, false));
        answers("planner.bound(true);", planner.bound(true));
        answers("planner.cuts();", planner.cuts());
        answers("planner.cut(0);", planner.cut(0));
        answers("planner.landmark(work);", planner.landmark(work));
        answers("planner.draft(walk);", planner.draft(walk));
        answers("planner.check();", planner.check());
        answers("planner.cost();", planner.cost());
        answers("planner.apply(walk);", planner.apply(walk));
        answers("planner.plan();", planner.plan());
    }

    /** The next line of the example must be this call; answers what it says behind it. */
    private static String next(String call) {
        String line = at < EXAMPLE.size() ? EXAMPLE.get(at) : "";
        at++;
        String[] parts = line.split("//", 2);
        Due.same("line " + at + " of the example", parts[0].strip(), call);
        return parts.length < 2 ? "" : parts[1].strip();
    }

    private static void answers(String call, Object got) {
        String said = next(call);
        Due.same(call + " in the example", String.valueOf(got), said.replaceAll(":.*", ""));
    }

    private static void table(List<String> lines) {
        int rows = 0;
        for (String line : lines) {
            rows += line.startsWith("| `") ? 1 : 0;
        }
        int calls = 0;
        for (Method method : CutPlanner.class.getDeclaredMethods()) {
            if (Modifier.isPublic(method.getModifiers())) {
                calls++;
                Due.is("rows of the table for " + method.getName(), rowsFor(method, lines), 1);
            }
        }
        Due.is("rows of the table", rows, calls);
    }

    /** Counts the rows with the call's name, as many parameters, and the exceptions that it names, in order. */
    private static int rowsFor(Method method, List<String> lines) {
        int count = 0;
        for (String line : lines) {
            if (line.startsWith("| `" + method.getName() + "(")) {
                count++;
                String[] cells = line.split("\\|");
                String inside = cells[1].replaceAll("^.*\\(|\\).*$", "").strip();
                int named = inside.isEmpty() ? 0 : inside.split(",").length;
                Due.is("parameters in " + line, named, method.getParameterCount());
                Due.same("exceptions in " + line, thrownBy(cells[3]), declaredBy(method));
            }
        }
        return count;
    }

    private static String thrownBy(String cell) {
        StringBuilder text = new StringBuilder();
        for (String part : cell.strip().split(";")) {
            text.append(part.strip().replaceAll(":.*", "")).append(' ');
        }
        return text.toString().strip();
    }

    private static String declaredBy(Method method) {
        StringBuilder text = new StringBuilder();
        for (Class<?> kind : method.getExceptionTypes()) {
            String name = kind.getSimpleName();
            text.append(name.startsWith("Index") ? "index" : name.contains("Argument") ? "argument" : "state").append(' ');
        }
        return text.toString().strip();
    }
}
