import java.io.IOException;
import java.lang.reflect.Constructor;
import java.lang.reflect.Field;
import java.lang.reflect.Method;
import java.lang.reflect.Modifier;
import java.nio.file.Files;
import java.nio.file.Path;
import java.util.ArrayList;
import java.util.Arrays;
import java.util.HashSet;
import java.util.List;
import java.util.Set;
import java.util.TreeSet;
import java.util.regex.Matcher;
import java.util.regex.Pattern;

/** The document's face, and those rules of LANGUAGE.md that can be seen in the text or by reflection. */
public final class LanguageTest {
    public static void main(String[] args) throws IOException {
        String source = Files.readString(Path.of("src/main/java/WellPromises.java"));
        face(Files.readString(Path.of("../shared/DOC.md")));
        names();
        text(source);
        methodLengths(source);
        Check.done("LanguageTest");
    }

    private static void face(String document) {
        String block = document.substring(document.indexOf("public final class WellPromises"));
        block = block.substring(0, block.indexOf("```"));
        Set<String> due = new TreeSet<>();
        Matcher m = Pattern.compile("public (\\w+) (\\w+)\\(([^)]*)\\)").matcher(block);
        while (m.find()) {
            due.add(m.group(1) + " " + m.group(2) + "(" + m.group(3).replaceAll(" \\w+(?=,|$)", "").replace(" ", "") + ")");
        }
        Set<String> there = new TreeSet<>();
        for (Method method : WellPromises.class.getDeclaredMethods()) {
            if (!Modifier.isPrivate(method.getModifiers())) {
                List<String> types = new ArrayList<>();
                Arrays.stream(method.getParameterTypes()).forEach(t -> types.add(t.getName()));
                there.add(method.getReturnType() + " " + method.getName() + "(" + String.join(",", types) + ")");
            }
        }
        Check.due("methods of the document", due.size(), 42);
        Check.due("the face " + due + " is " + there, due.equals(there), true);
        Constructor<?>[] constructors = WellPromises.class.getDeclaredConstructors();
        Check.due("constructors", constructors.length, 1);
        Check.due("public constructor", Modifier.isPublic(constructors[0].getModifiers()), true);
        Check.due("public final", WellPromises.class.getModifiers(), Modifier.PUBLIC | Modifier.FINAL);
    }

    private static void names() {
        Set<String> face = new HashSet<>();
        for (Method method : WellPromises.class.getDeclaredMethods()) {
            if (Modifier.isPublic(method.getModifiers())) {
                face.add(method.getName());
            }
        }
        List<Class<?>> all = new ArrayList<>(List.of(WellPromises.class.getDeclaredClasses()));
        Check.due("classes", all.size() + 1 <= 12, true);
        for (Class<?> inner : all) {
            Check.due("static " + inner, Modifier.isStatic(inner.getModifiers()), true);
            for (Method method : inner.getDeclaredMethods()) {
                Check.due(inner + " has the face's name " + method.getName(), face.contains(method.getName()), false);
            }
        }
        for (Method method : WellPromises.class.getDeclaredMethods()) {
            boolean hidden = !Modifier.isPublic(method.getModifiers());
            Check.due("a private " + method.getName(), hidden && face.contains(method.getName()), false);
        }
        all.add(WellPromises.class);
        for (Class<?> one : all) {
            int fields = 0;
            for (Field field : one.getDeclaredFields()) {
                boolean constant = Modifier.isStatic(field.getModifiers());
                fields += constant ? 0 : 1;
                boolean good = !constant || Modifier.isFinal(field.getModifiers())
                    && Set.of("int", "long", "boolean", "char", "java.lang.String").contains(field.getType().getName());
                Check.due("constant " + field, good, true);
                boolean hidden = Modifier.isPrivate(field.getModifiers()) || field.getName().equals("NONE");
                Check.due("hidden " + field, one != WellPromises.class || hidden, true);
            }
            Check.due("fields of " + one + ": " + fields, fields <= 20, true);
            for (Method method : one.getDeclaredMethods()) {
                Check.due("parameters of " + method, method.getParameterCount() <= 7, true);
            }
        }
    }

    private static void text(String source) {
        String code = source.replaceAll("(?s)/\\*.*?\\*/", "").replaceAll("//[^\n]*", "");
        String bare = code.replaceAll("\"[^\"]*\"", "\"\"");
        String[] never = {"->", "::", "\\btry\\b", "\\bcatch\\b", "\\bfinally\\b", "\\bsynchronized\\b", "\\bassert\\b",
            "\\bfloat\\b", "\\bdouble\\b", "\\bvar\\b", "\\bpackage\\b", "\\bprotected\\b", "\\bSystem\\.(?!arraycopy)",
            "\\bThread\\b", "\\bRandom\\b", "\\binstanceof\\b", "\\bnew \\w+\\[\\w*\\]\\[", "\" *\\+", "\\+ *\"", "\\bstatic \\{"};
        for (String pattern : never) {
            Check.due("found " + pattern, Pattern.compile(pattern).matcher(bare).find(), false);
        }
        Matcher imports = Pattern.compile("import ([\\w.]+);").matcher(code);
        while (imports.find()) {
            Check.due("import " + imports.group(1),
                Set.of("java.util.Arrays", "java.util.NoSuchElementException").contains(imports.group(1)), true);
        }
        Matcher thrown = Pattern.compile("throw new (\\w+)").matcher(code);
        int count = 0;
        while (thrown.find()) {
            count++;
            Check.due("throws " + thrown.group(1), thrown.group(1).equals("NoSuchElementException"), true);
        }
        Check.due("one throw", count, 1);
        Check.due("signs 1 to 127", source.chars().allMatch(c -> c > 0 && c < 128), true);
    }

    private static void methodLengths(String source) {
        String[] lines = source.split("\n");
        int start = -1;
        String indent = "";
        for (int k = 0; k < lines.length; k++) {
            Matcher m = Pattern.compile("^( {4}| {8})(?!private static final class)\\w.*\\) (throws \\w+ )?\\{$").matcher(lines[k]);
            if (start < 0 && m.find()) {
                start = k;
                indent = m.group(1);
            } else if (start >= 0 && lines[k].equals(indent + "}")) {
                Check.due("lines of " + lines[start].trim(), k - start <= 60, true);
                start = -1;
            }
        }
    }
}
