import java.io.IOException;
import java.lang.reflect.Constructor;
import java.lang.reflect.Field;
import java.lang.reflect.Method;
import java.lang.reflect.Modifier;
import java.nio.file.Files;
import java.nio.file.Path;
import java.util.Set;
import java.util.TreeSet;
import java.util.regex.Matcher;
import java.util.regex.Pattern;

/** The class shows the document's face and nothing else, and its source keeps to what LANGUAGE.md leaves. */
public final class FaceTest {
    private static final String FACE =
        "int figure(int) int figures(int,int,int) int block(int) int mend(int,int,int) int of(int,int) int feed(int) "
        + "int law() int brings(int,int,int) int size(int,int) int turned(int,int) int ways(int,int) int inside(int) "
        + "int around(int,int) int common(int) int longest(int,int) int richest(int,int,int) int with(int,int) "
        + "int spare(int,int) int when(int,int) int smallest(int,int) int leave(int,int) int byTurns(int,int) "
        + "int egg(int,int) int judge(int,int) int filled(int,int,int) int last(int,int) int drawn(int,int,int,int) "
        + "int cut(int) int pass(int) int led(int) int image() int back() int undo() int redo() int body(int) "
        + "int act(int,int,int) int trace(int) int keep(int,int) int row(int,int,int) int put(int,int,long) "
        + "long element(int,int) int shift(int,int,int,int,int) int taken(int,int) int count(int)";
    private static final String[] NOT_LEFT = {
        "throw", "throws", "try", "catch", "finally", "synchronized", "assert", "import", "package", "protected", "->",
        "::", "hashCode", "toString", "Object", "native", "volatile", "transient", "goto"
    };

    private static int wrong;

    public static void main(String[] args) throws IOException {
        face();
        nestedClasses();
        source();
        System.out.println(wrong == 0 ? "the face is as due" : wrong + " faults of the face");
        if (wrong != 0) {
            System.exit(1);
        }
    }

    private static void due(boolean is, String what) {
        if (!is) {
            wrong++;
            System.out.println(what);
        }
    }

    private static void face() {
        Set<String> shown = new TreeSet<>();
        Set<String> own = new TreeSet<>();
        for (Method method : CutFromOthers.class.getDeclaredMethods()) {
            if (Modifier.isPrivate(method.getModifiers())) {
                own.add(method.getName());
            } else {
                due(Modifier.isPublic(method.getModifiers()), "not public: " + method);
                StringBuilder types = new StringBuilder();
                for (Class<?> type : method.getParameterTypes()) {
                    types.append(types.length() == 0 ? "" : ",").append(type);
                }
                shown.add(method.getReturnType() + " " + method.getName() + "(" + types + ")");
            }
        }
        Set<String> due = new TreeSet<>();
        Matcher one = Pattern.compile("\\w+ (\\w+)\\([a-z,]*\\)").matcher(FACE);
        while (one.find()) {
            due.add(one.group());
            due(!own.contains(one.group(1)), "a private method bears the public name " + one.group(1));
        }
        due(shown.equals(due), "methods: " + shown + ", due is " + due);
        due(Modifier.isFinal(CutFromOthers.class.getModifiers()), "the class is not final");
        Constructor<?>[] made = CutFromOthers.class.getDeclaredConstructors();
        due(made.length == 1 && Modifier.isPublic(made[0].getModifiers()) && made[0].getParameterCount() == 0, "constructors");
        for (Field field : CutFromOthers.class.getDeclaredFields()) {
            boolean constant = Set.of("BAD", "NOT", "FULL", "STATE", "VOID").contains(field.getName());
            int sort = field.getModifiers();
            due(constant ? Modifier.isPublic(sort) && Modifier.isStatic(sort) : Modifier.isPrivate(sort), "field " + field);
            due(!Modifier.isStatic(sort) || Modifier.isFinal(sort), "static state " + field);
        }
    }

    private static void nestedClasses() {
        Class<?>[] nested = CutFromOthers.class.getDeclaredClasses();
        due(nested.length + 1 <= 12, "classes: " + (nested.length + 1));
        for (Class<?> one : nested) {
            int sort = one.getModifiers();
            due(Modifier.isStatic(sort) && !Modifier.isPublic(sort) && !Modifier.isProtected(sort), "class " + one);
            int fields = 0;
            for (Field field : one.getDeclaredFields()) {
                due(!Modifier.isStatic(field.getModifiers()) || Modifier.isFinal(field.getModifiers()), "static " + field);
                fields += Modifier.isStatic(field.getModifiers()) ? 0 : 1;
            }
            due(fields <= 20, "fields of " + one + ": " + fields);
            for (Method method : one.getDeclaredMethods()) {
                due(method.getParameterCount() <= 7, "parameters of " + method);
            }
        }
    }

    private static void source() throws IOException {
        String text = Files.readString(Path.of("src/main/java/CutFromOthers.java"));
        String code = text.replaceAll("(?s)/\\*.*?\\*/", " ").replaceAll("//[^\n]*", " ");
        for (String word : NOT_LEFT) {
            boolean letters = Character.isLetter(word.charAt(0));
            String pattern = letters ? "\\b" + word + "\\b" : Pattern.quote(word);
            due(!Pattern.compile(pattern).matcher(code).find(), "LANGUAGE.md leaves no " + word);
        }
        due(text.chars().allMatch(sign -> sign >= 1 && sign <= 127), "a sign beyond 127");
    }
}
