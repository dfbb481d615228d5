import java.io.IOException;
import java.lang.reflect.InvocationTargetException;
import java.lang.reflect.Method;
import java.lang.reflect.Modifier;
import java.nio.file.Files;
import java.nio.file.Path;
import java.util.ArrayList;
import java.util.List;
import java.util.TreeSet;
import java.util.regex.Matcher;
import java.util.regex.Pattern;
import java.util.stream.Stream;

/** What README.md says of the class and its tests: its example is run, its tables are held against the class. */
public final class ReadmeTest {
    private static final Pattern CALL = Pattern.compile("link\\.(\\w+)\\((.*)\\); +// (throws \\w+|\\w+): .*");
    private static final Pattern THROWN = Pattern.compile("`(\\w+Exception)`, ");
    private static final Pattern TEST_NAME = Pattern.compile("\\b\\w+Test\\b");

    public static void main(String[] args) throws IOException {
        List<String> lines = Files.readAllLines(Path.of("README.md"));
        example(lines);
        for (Method method : face()) {
            rowOfCall(lines, method);
        }
        rowsOfConstants(lines);
        rowsOfTypes(lines);
        namesOfTests(lines);
        Check.end();
    }

    private static void example(List<String> lines) {
        int first = lines.indexOf("```java") + 1;
        int behind = lines.indexOf("```");
        Check.same("the example's first line", lines.get(first), "TradeLink link = new TradeLink();");
        TradeLink link = new TradeLink();
        TreeSet<String> called = new TreeSet<>();
        for (String line : lines.subList(first + 1, behind)) {
            Matcher call = CALL.matcher(line);
            Check.same("a call with its answer: " + line, call.matches(), true);
            if (call.matches()) {
                called.add(call.group(1));
                Check.same(line, answer(link, call.group(1), call.group(2)), due(call.group(3)));
            }
        }
        TreeSet<String> names = new TreeSet<>();
        for (Method method : face()) {
            names.add(method.getName());
        }
        Check.same("the calls of the example", called.toString(), names.toString());
    }

    private static String answer(TradeLink link, String name, String arguments) {
        for (Method method : face()) {
            if (method.getName().equals(name)) {
                try {
                    return method.invoke(link, values(arguments)).toString();
                } catch (InvocationTargetException e) {
                    return "throws " + e.getCause().getClass().getSimpleName();
                } catch (IllegalAccessException | IllegalArgumentException e) {
                    return "cannot be called so";
                }
            }
        }
        return "is no call of the face";
    }

    private static Object[] values(String arguments) {
        List<Object> values = new ArrayList<>();
        for (String text : arguments.isEmpty() ? new String[0] : arguments.split(", ")) {
            if (text.equals("true") || text.equals("false")) {
                values.add(Boolean.valueOf(text));
            } else if (text.startsWith("'")) {
                values.add((int) text.charAt(1));
            } else {
                values.add(Integer.valueOf(text));
            }
        }
        return values.toArray();
    }

    /** The example names a constant where take answers its number. */
    private static String due(String text) {
        try {
            return Integer.toString(TradeLink.class.getField(text).getInt(null));
        } catch (NoSuchFieldException | IllegalAccessException e) {
            return text;
        }
    }

    /** The exceptions stand in the order in which the face names them: the first that applies is thrown. */
    private static void rowOfCall(List<String> lines, Method method) {
        String[] cells = onlyRow(lines, "| `" + method.getName() + "(");
        Check.same(method.getName() + ": columns", cells.length, 4);
        String parameters = cells[1].replaceAll("[^,\\w]", "").replaceFirst(method.getName(), "");
        int count = parameters.isEmpty() ? 0 : parameters.split(",").length;
        Check.same(method.getName() + ": parameters", count, method.getParameterCount());
        List<String> due = new ArrayList<>();
        for (Class<?> thrown : method.getExceptionTypes()) {
            due.add(thrown.getSimpleName());
        }
        List<String> said = new ArrayList<>();
        Matcher thrown = THROWN.matcher(cells[3]);
        while (thrown.find()) {
            said.add(thrown.group(1));
        }
        Check.same(method.getName() + ": throws", said.toString(), due.toString());
        Check.same(method.getName() + ": throws nothing", cells[3].trim().equals("nothing"), due.isEmpty());
    }

    private static void rowsOfConstants(List<String> lines) {
        String[] names = {"GARBLED", "IGNORED", "DONE", "EARLY", "LOW"};
        for (String name : names) {
            Check.same(name, onlyRow(lines, "| `" + name + "` |")[2].trim(), due(name));
        }
    }

    /** The numbers that the columns a, b and c begin with are the tags, in their order, of the frame that is given. */
    private static void rowsOfTypes(List<String> lines) {
        for (int type = 0; type < 128; type++) {
            Side side = new Side();
            int length;
            try {
                length = side.on().give(type, 1, false, 1, 1, 1);
            } catch (IllegalArgumentException e) {
                Check.same("a row of type " + type, rows(lines, "| `'" + (char) type + "'` |").size(), 0);
                continue;
            }
            String[] cells = onlyRow(lines, "| `'" + (char) type + "'` |");
            StringBuilder body = new StringBuilder("35=" + (char) type + "|34=1|");
            for (int i = 3; i < cells.length; i++) {
                String tag = cells[i].trim().split("[^0-9]", 2)[0];
                if (!tag.isEmpty()) {
                    body.append(tag).append(tag.equals("123") ? "=Y|" : "=1|");
                }
            }
            Check.same("the length of type " + (char) type, length, Side.frame(body.toString()).length());
            Check.same("the frame of type " + (char) type, new Side().deliverBody(body.toString()) != TradeLink.GARBLED,
                    true);
        }
    }

    private static void namesOfTests(List<String> lines) throws IOException {
        TreeSet<String> named = new TreeSet<>();
        Matcher name = TEST_NAME.matcher(String.join("\n", lines));
        while (name.find()) {
            named.add(name.group());
        }
        named.remove("Test");
        TreeSet<String> there = new TreeSet<>();
        try (Stream<Path> files = Files.list(Path.of("src/test/java"))) {
            files.map(file -> file.getFileName().toString())
                    .filter(file -> file.endsWith("Test.java"))
                    .forEach(file -> there.add(file.substring(0, file.length() - ".java".length())));
        }
        Check.same("the tests that README.md names", named.toString(), there.toString());
    }

    private static List<Method> face() {
        List<Method> methods = new ArrayList<>();
        for (Method method : TradeLink.class.getDeclaredMethods()) {
            if (Modifier.isPublic(method.getModifiers())) {
                methods.add(method);
            }
        }
        return methods;
    }

    private static String[] onlyRow(List<String> lines, String start) {
        List<String> rows = rows(lines, start);
        Check.same("rows that start with " + start, rows.size(), 1);
        return rows.isEmpty() ? new String[] {"", "", "", ""} : rows.get(0).split("\\|");
    }

    private static List<String> rows(List<String> lines, String start) {
        List<String> rows = new ArrayList<>();
        for (String line : lines) {
            if (line.startsWith(start)) {
                rows.add(line);
            }
        }
        return rows;
    }
}
