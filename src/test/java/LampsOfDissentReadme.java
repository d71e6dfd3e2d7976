import java.io.IOException;
import java.lang.reflect.Method;
import java.lang.reflect.Modifier;
import java.nio.file.Files;
import java.nio.file.Path;
import java.util.ArrayList;
import java.util.List;
import java.util.Set;
import java.util.TreeSet;
import java.util.regex.Matcher;
import java.util.regex.Pattern;

/** README.md names every call of the face, and the calls of its example answer what stands behind them. */
public final class LampsOfDissentReadme {
    private static final Pattern ROW = Pattern.compile("(?m)^\\| `(\\w+)\\(([^)]*)\\)` \\|");
    private static final Pattern CALL = Pattern.compile("(?m)^ *city\\.(\\w+)\\(([^)]*)\\); +// (-?\\d+):");
    private static final Pattern WRITTEN = Pattern.compile("\"([^\"]*)\"\\.toCharArray");
    private static int wrong = 0;

    public static void main(String[] args) throws IOException, ReflectiveOperationException {
        String page = Files.readString(Path.of("README.md"));
        rows(page);
        example(page);
        System.out.println(wrong == 0 ? "README.md is as due" : wrong + " things are not as due");
        if (wrong != 0) {
            System.exit(1);
        }
    }

    private static void check(boolean so, String what) {
        if (!so) {
            wrong++;
            System.out.println(what);
        }
    }

    private static void rows(String page) {
        Set<String> due = new TreeSet<>();
        for (Method method : LampsOfDissent.class.getDeclaredMethods()) {
            if (Modifier.isPublic(method.getModifiers())) {
                due.add(method.getName() + " " + method.getParameterCount());
            }
        }
        Set<String> told = new TreeSet<>();
        for (Matcher row = ROW.matcher(page); row.find();) {
            told.add(row.group(1) + " " + numberOf(row.group(2)));
        }
        check(told.equals(due), "README.md tells the calls " + told + ", due are " + due);
    }

    private static int numberOf(String parameters) {
        return parameters.isEmpty() ? 0 : parameters.split(",").length;
    }

    private static void example(String page) throws ReflectiveOperationException {
        LampsOfDissent city = new LampsOfDissent();
        Matcher written = WRITTEN.matcher(page);
        boolean found = written.find();
        check(found, "the example writes no text");
        int ran = 0;
        for (Matcher call = CALL.matcher(page); call.find(); ran++) {
            if (found && city.count(8) == 0 && call.start() > written.start()) {
                for (char letter : written.group(1).toCharArray()) {
                    city.write(letter);
                }
            }
            int got = answer(city, call.group(1), call.group(2));
            check(got == Integer.parseInt(call.group(3)), call.group() + " but answered " + got);
        }
        int lines = page.split("(?m)^ *city\\.\\w+\\([^)]*\\); ", -1).length - 1;
        check(ran > 0 && ran == lines, "of the example's " + lines + " calls " + ran + " were run");
    }

    private static int answer(LampsOfDissent city, String name, String parameters) throws ReflectiveOperationException {
        List<Class<?>> types = new ArrayList<>();
        List<Object> numbers = new ArrayList<>();
        for (int k = 0; k < numberOf(parameters); k++) {
            types.add(int.class);
            numbers.add(Integer.valueOf(parameters.split(",")[k].trim()));
        }
        Method method = LampsOfDissent.class.getMethod(name, types.toArray(new Class<?>[0]));
        return (Integer) method.invoke(city, numbers.toArray());
    }
}
