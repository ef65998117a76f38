import java.io.IOException;
import java.lang.reflect.Field;
import java.lang.reflect.Method;
import java.lang.reflect.Modifier;
import java.nio.file.Files;
import java.nio.file.Path;
import java.util.ArrayList;
import java.util.List;
import java.util.Set;
import java.util.TreeSet;
import java.util.regex.Matcher;
import java.util.regex.Pattern;
import java.util.stream.Stream;

/** README.md is followed from a copy of the checkout: what it says of commands, calls, answers and tests is so. */
public final class ReadmeTest {
    private static int asked;
    private static int wrong;

    public static void main(String[] args) throws IOException, InterruptedException {
        String page = Files.readString(Path.of("README.md"));
        calls(page);
        constants(page);
        answers();
        tests(page);
        due("the example is src/example/java/Example.java", block(page, "java", 0),
            Files.readString(Path.of("src/example/java/Example.java")));
        due("512 calls", page.contains("at most 512 calls"), true);
        commands(page);
        System.out.println(wrong == 0 ? "the page is so in " + asked + " answers" : wrong + " answers are not as due");
        if (wrong != 0) {
            System.exit(1);
        }
    }

    private static void due(String what, Object got, Object want) {
        asked++;
        if (!want.equals(got)) {
            wrong++;
            System.out.println(what + ": " + got + ", due is " + want);
        }
    }

    private static Set<String> found(String page, String pattern) {
        Set<String> all = new TreeSet<>();
        Matcher one = Pattern.compile(pattern, Pattern.MULTILINE).matcher(page);
        while (one.find()) {
            all.add(one.group(1));
        }
        return all;
    }

    /** The n-th stretch between fences of a sort. */
    private static String block(String page, String sort, int n) {
        Matcher one = Pattern.compile("^```" + sort + "\n(.*?)^```$", Pattern.MULTILINE | Pattern.DOTALL).matcher(page);
        for (int i = 0; one.find(); i++) {
            if (i == n) {
                return one.group(1);
            }
        }
        return "";
    }

    private static void calls(String page) {
        Set<String> named = new TreeSet<>();
        for (String call : found(page, "^\\| `(\\w+\\([^)]*\\))` \\|")) {
            String inside = call.substring(call.indexOf('(') + 1, call.length() - 1);
            named.add(call.substring(0, call.indexOf('(')) + " of " + (inside.isEmpty() ? 0 : inside.split(", ").length));
        }
        Set<String> own = new TreeSet<>();
        for (Method method : CutFromOthers.class.getDeclaredMethods()) {
            if (Modifier.isPublic(method.getModifiers())) {
                own.add(method.getName() + " of " + method.getParameterCount());
            }
        }
        due("the calls", named, own);
    }

    private static void constants(String page) {
        for (Field field : CutFromOthers.class.getFields()) {
            try {
                int value = field.getInt(null);
                boolean named = page.contains("| " + value + " | `" + field.getName() + "` |")
                    || page.contains("`" + field.getName() + "` (" + value + ")");
                due("constant " + field.getName(), named, true);
            } catch (IllegalAccessException hidden) {
                due("constant " + field.getName(), "hidden", "public");
            }
        }
    }

    /** Each answer below 0 of the page, by a call that it is said of. */
    private static void answers() {
        CutFromOthers x = new CutFromOthers();
        due("no such number", x.longest(0, -1), -1);
        int block = x.block(3);
        due("none", x.longest(block, 0), -2);
        due("nothing wrong in a told row", x.row(0, 0, 0) + x.judge(0, block), 1 - 2);
        for (int i = 1; i < 6; i++) {
            x.block(3);
        }
        due("6 blocks", x.block(3), -3);
        for (int i = 0; i < 10; i++) {
            x.figure(3);
        }
        due("10 figures", x.figure(3), -3);
        for (int i = 0; i < 50; i++) {
            x.body(0);
        }
        due("50 stones", x.body(0), -3);
        for (int i = 0; i < 120; i++) {
            x.feed('1');
        }
        due("120 bytes", x.feed('1'), -3);
        due("the place of the fault", x.law(), -104);
        due("the tape is empty", x.count(2), 0);
        due("can't be cut out", x.cut(0), -5);
        due("later than year 99", x.pass(99) + x.pass(1), 99 - 5);
        due("no image", x.back(), -5);
        due("nothing to undo", x.undo(), -5);
        due("nothing to do again", x.redo(), -5);
        due("nothing there", x.taken(1, 0), -11);
        due("of another kind", x.taken(0, 0), -12);
        due("no such place", x.put(0, 0, 1), -13);
        due("a size below 0", x.row(0, 0, -1), -14);
        due("no such element", x.element(0, 0), Long.MIN_VALUE);
        due("no refusal", x.act(0, 0, -7), -7);
    }

    private static void tests(String page) throws IOException {
        Set<String> there = new TreeSet<>();
        try (Stream<Path> files = Files.list(Path.of("src/test/java"))) {
            files.forEach(file -> there.add(file.getFileName().toString().replace(".java", "")));
        }
        String part = page.substring(Math.max(0, page.indexOf("The tests, in `src/test/java`")));
        Set<String> named = found(part, "`([A-Z]\\w*[a-z])`");
        due("the tests", named, there);
        due(".ci/run can be run", Files.isExecutable(Path.of(".ci/run")), true);
        due(".ci/run is named", block(page, "sh", 1), ".ci/run\n");
    }

    private static void commands(String page) throws IOException, InterruptedException {
        Path copy = Files.createTempDirectory("readme");
        copyAll(Path.of("src"), copy.resolve("src"));
        due("the example's lines", run(copy, block(page, "sh", 0)), block(page, "text", 0));
        String told = run(copy, block(page, "sh", 2));
        due("a test alone: " + told, told.contains(" answers are as due\n") && told.endsWith("40 drawn runs are as due\n"), true);
        removeAll(copy);
    }

    private static String run(Path where, String lines) throws IOException, InterruptedException {
        Process process = new ProcessBuilder("sh", "-e", "-c", lines).directory(where.toFile()).redirectErrorStream(true).start();
        String said = new String(process.getInputStream().readAllBytes());
        due("these commands fail:\n" + lines + said, process.waitFor(), 0);
        return said;
    }

    private static List<Path> below(Path top) throws IOException {
        List<Path> all = new ArrayList<>();
        try (Stream<Path> paths = Files.walk(top)) {
            paths.forEach(all::add);
        }
        return all;
    }

    private static void copyAll(Path from, Path to) throws IOException {
        for (Path path : below(from)) {
            Files.copy(path, to.resolve(from.relativize(path).toString()));
        }
    }

    private static void removeAll(Path top) throws IOException {
        List<Path> all = below(top);
        for (int i = all.size() - 1; i >= 0; i--) {
            Files.delete(all.get(i));
        }
    }
}
