import java.lang.reflect.Constructor;
import java.lang.reflect.Field;
import java.lang.reflect.Method;
import java.lang.reflect.Modifier;
import java.nio.file.Files;
import java.nio.file.Path;
import java.util.ArrayList;
import java.util.Arrays;
import java.util.List;
import java.util.Set;
import java.util.TreeSet;
import java.util.regex.Matcher;
import java.util.regex.Pattern;

/** The public face of the document, and of LANGUAGE.md what can be seen from the class and from its text. */
public final class FaceTest {
    private static final String[] FACE = {
        "int feed(int,int,int,int,int)", "boolean end(int)", "int house()", "int fault()", "int cell(int,int)", "int door(int,int)",
        "int leaf(int,int,int,int)", "int can(int,int)", "int fit(int,int)", "int bites(int,int,int,int)", "int clashes()",
        "int cheapest()", "int hung(int)", "int fewest()", "int fewestBy(int)", "int ways()", "int forces(int,int,int)",
        "int forced(int)", "int forcedAt(int)", "int stuck()", "int joiner()", "int joinerAt(int)", "boolean rehang(int,int)",
        "boolean stand(int,int)", "int place()", "int does(int)", "int minutes()", "int day()", "int judge()", "int judged(int)",
        "int live()", "int way(int,int)", "int wayAt(int)", "int walk()", "int reach(int)", "int quiet()", "int stride()",
        "int sentence()", "int said()", "boolean image(int)", "boolean restore(int)", "int count(int)"};
    private static final String[] BANNED = {
        "->", "::", "synchronized", "\\bassert\\b", "\\bfinally\\b", "\\bcatch\\b", "\\btry\\b", "\\binstanceof\\b", "Exact\\(",
        "\\bSystem\\.(?!arraycopy)", "\\bThread\\b", "\\bRandom\\b", "\\bprotected\\b", "\\bhashCode\\b", "\\btoString\\b",
        "\\bString\\.", "\\bdouble\\b", "\\bfloat\\b", "\" \\+", "\\+ \"", "while \\(true\\)", "for \\(;;\\)"};

    private static int wrong;

    public static void main(String[] args) throws Exception {
        face();
        classes();
        text();
        System.out.println(wrong == 0 ? "FaceTest: all is as due" : "FaceTest: " + wrong + " faults");
        if (wrong != 0) {
            System.exit(1);
        }
    }

    private static void wants(String what, boolean good) {
        if (!good) {
            wrong++;
            System.out.println(what);
        }
    }

    private static void face() throws Exception {
        Class<?> face = BitingDoors.class;
        wants("public and final", Modifier.isPublic(face.getModifiers()) && Modifier.isFinal(face.getModifiers()));
        Set<String> seen = new TreeSet<>();
        for (Method method : face.getDeclaredMethods()) {
            if (!Modifier.isPrivate(method.getModifiers())) {
                wants("public: " + method, Modifier.isPublic(method.getModifiers()) && !Modifier.isStatic(method.getModifiers()));
                List<String> types = new ArrayList<>();
                for (Class<?> type : method.getParameterTypes()) {
                    types.add(type.getName());
                }
                seen.add(method.getReturnType() + " " + method.getName() + "(" + String.join(",", types) + ")");
            }
        }
        wants("the methods of the face: " + seen, seen.equals(new TreeSet<>(Arrays.asList(FACE))));
        for (Field field : face.getDeclaredFields()) {
            wants("private: " + field, Modifier.isPrivate(field.getModifiers()) || field.getName().equals("NONE"));
        }
        Field none = face.getField("NONE");
        wants("NONE", none.getInt(null) == -1 && Modifier.isStatic(none.getModifiers()) && Modifier.isFinal(none.getModifiers()));
        Constructor<?>[] made = face.getDeclaredConstructors();
        wants("one constructor", made.length == 1 && made[0].getParameterCount() == 0 && Modifier.isPublic(made[0].getModifiers()));
        wants("door throws", Arrays.equals(face.getMethod("door", int.class, int.class).getExceptionTypes(),
            new Class<?>[] {java.util.NoSuchElementException.class}));
    }

    private static void classes() {
        Set<String> open = new TreeSet<>();
        for (Method method : BitingDoors.class.getDeclaredMethods()) {
            if (Modifier.isPublic(method.getModifiers())) {
                open.add(method.getName());
            }
        }
        List<Class<?>> all = new ArrayList<>(Arrays.asList(BitingDoors.class.getDeclaredClasses()));
        wants("some twelve classes", all.size() < 13);
        for (Class<?> inner : all) {
            wants("static and not public: " + inner, Modifier.isStatic(inner.getModifiers()) && !Modifier.isPublic(inner.getModifiers()));
        }
        all.add(BitingDoors.class);
        for (Class<?> each : all) {
            int fields = 0;
            for (Field field : each.getDeclaredFields()) {
                boolean fixed = Modifier.isStatic(field.getModifiers());
                wants("static fields are final: " + field, !fixed || Modifier.isFinal(field.getModifiers()));
                fields += fixed ? 0 : 1;
            }
            wants("some twenty fields: " + each, fields <= 20);
            for (Method method : each.getDeclaredMethods()) {
                boolean ofFace = each == BitingDoors.class && Modifier.isPublic(method.getModifiers());
                wants("a name of the face: " + method, ofFace || !open.contains(method.getName()));
                wants("seven parameters: " + method, method.getParameterCount() <= 7);
            }
        }
    }

    private static void text() throws Exception {
        Path root = Path.of(System.getProperty("project.root", "."));
        String source = Files.readString(root.resolve("src/main/java/BitingDoors.java"));
        List<String> imports = new ArrayList<>();
        for (String line : source.split("\n")) {
            if (line.startsWith("import ")) {
                imports.add(line);
            }
        }
        wants("imports " + imports, imports.equals(List.of("import java.util.Arrays;", "import java.util.NoSuchElementException;")));
        wants("no package", !source.startsWith("package") && !source.contains("\npackage"));
        String code = source.replaceAll("(?s)/\\*.*?\\*/", "").replaceAll("//[^\n]*", "");
        for (String banned : BANNED) {
            Matcher found = Pattern.compile(banned).matcher(code);
            wants("not in the language: " + banned, !found.find());
        }
        wants("one throw", code.split("\\bthrow\\b").length == 2);
        String[] lines = source.split("\n");
        for (int i = 0, begun = 0; i < lines.length; i++) {
            if (lines[i].matches("( {4}| {8})[a-zA-Z].*\\) (throws \\w+ )?\\{")) {
                begun = i;
            }
            if (lines[i].matches("( {4}| {8})\\}") && i - begun > 60 && begun > 0 && lines[begun].startsWith("        ")) {
                wants("a long method at line " + (begun + 1), false);
            }
            wants("a long line " + (i + 1), lines[i].length() <= 140);
        }
    }
}
