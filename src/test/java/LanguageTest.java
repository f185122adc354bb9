import java.lang.reflect.Constructor;
import java.lang.reflect.Field;
import java.lang.reflect.Method;
import java.lang.reflect.Modifier;
import java.nio.file.Files;
import java.nio.file.Path;
import java.util.ArrayList;
import java.util.Collections;
import java.util.HashSet;
import java.util.List;
import java.util.Set;
import java.util.regex.Matcher;
import java.util.regex.Pattern;

/** What can be held by looking at the program itself of the rules of LANGUAGE.md, and the document's face. */
public final class LanguageTest {
    private static final Check C = new Check();

    public static void main(String[] args) throws Exception {
        face();
        classes();
        source();
        lengths();
        C.end();
    }

    private static void face() throws Exception {
        String document = Files.readString(Path.of("..", "shared", "DOC.md"));
        List<String> due = new ArrayList<>();
        Matcher m = Pattern.compile("^    public (\\w+) (\\w+)\\((.*?)\\)(?: throws (.*?))?;$", Pattern.MULTILINE)
                .matcher(document);
        while (m.find()) {
            due.add(m.group(1) + " " + m.group(2) + "(" + m.group(3).replaceAll(" \\w+(,|$)", "$1") + ") "
                    + (m.group(4) == null ? "" : m.group(4)));
        }
        List<String> got = new ArrayList<>();
        for (Method method : BreedingHouse.class.getDeclaredMethods()) {
            if (Modifier.isPublic(method.getModifiers())) {
                got.add(method.getReturnType().getSimpleName() + " " + method.getName() + "("
                        + names(method.getParameterTypes()) + ") " + names(method.getExceptionTypes()));
            } else {
                C.is(method + " is private", Modifier.isPrivate(method.getModifiers()), true);
            }
        }
        Collections.sort(due);
        Collections.sort(got);
        C.is("the face", got.toString(), due.toString());
        C.is("60 methods", due.size(), 60);
        Constructor<?>[] constructors = BreedingHouse.class.getDeclaredConstructors();
        C.is("one constructor", constructors.length, 1);
        C.is("a public one", Modifier.isPublic(constructors[0].getModifiers()), true);
        C.is("public and final", BreedingHouse.class.getModifiers(), Modifier.PUBLIC | Modifier.FINAL);
    }

    private static String names(Class<?>[] types) {
        List<String> names = new ArrayList<>();
        for (Class<?> type : types) {
            names.add(type.getSimpleName());
        }
        return String.join(", ", names);
    }

    private static void classes() {
        Set<String> open = new HashSet<>();
        for (Method m : BreedingHouse.class.getDeclaredMethods()) {
            if (Modifier.isPublic(m.getModifiers())) {
                open.add(m.getName());
            }
        }
        List<Class<?>> all = new ArrayList<>(List.of(BreedingHouse.class.getDeclaredClasses()));
        C.is("at most twelve classes", all.size() <= 11, true);
        for (Class<?> inside : all) {
            C.is(inside + " is static", Modifier.isStatic(inside.getModifiers()), true);
            C.is(inside + " isn't open", (inside.getModifiers() & (Modifier.PUBLIC | Modifier.PROTECTED)) == 0, true);
            for (Method m : inside.getDeclaredMethods()) {
                C.is(m + " has a name of its own", open.contains(m.getName()), false);
            }
        }
        all.add(BreedingHouse.class);
        for (Class<?> one : all) {
            int fields = 0;
            for (Field f : one.getDeclaredFields()) {
                fields += Modifier.isStatic(f.getModifiers()) ? 0 : 1;
                C.is(f + " is final", !Modifier.isStatic(f.getModifiers()) || Modifier.isFinal(f.getModifiers()), true);
                C.is(f + " is private", one != BreedingHouse.class || Modifier.isPrivate(f.getModifiers()), true);
            }
            C.is(one + " has few fields", fields <= 20, true);
            for (Method m : one.getDeclaredMethods()) {
                C.is(m + " has at most seven parameters", m.getParameterCount() <= 7, true);
                C.is(m + " isn't made by the compiler", m.isSynthetic(), false);
                C.is(m + " has a name of its own",
                        open.contains(m.getName()) && !Modifier.isPublic(m.getModifiers()), false);
            }
        }
    }

    private static void source() throws Exception {
        String text = Files.readString(Path.of("src", "main", "java", "BreedingHouse.java"));
        String bare = text.replaceAll("(?s)/\\*.*?\\*/", "").replaceAll("//[^\n]*", "").replaceAll("\"[^\"\n]*\"", "\"\"")
                .replaceAll("'.'", "' '");
        String[] never = {"->", "::", "\\bcatch\\b", "\\btry\\b", "\\bfinally\\b", "\\bsynchronized\\b", "\\bassert\\b",
            "\\bdouble\\b", "\\bfloat\\b", "\\bvar\\b", "\\bnative\\b", "Exact\\b", "\\bpackage\\b", "\\binstanceof\\b",
            "\" *\\+", "\\+ *\"", "\\bSystem\\.(?!arraycopy)", "\\bArrays\\.(?!fill|copyOf)", "\\bMath\\.(?!min|max|abs|floorMod)",
            "\\bInteger\\.(?!compare|bitCount)", "\\bLong\\.(?!compare)", "MAX_VALUE", "MIN_VALUE", "\\bThread\\b", "while \\(true\\)",
            "for \\(;;\\)", "\\bequals\\b", "\\bhashCode\\b", "\\btoString\\b"};
        for (String one : never) {
            Matcher m = Pattern.compile(one).matcher(bare);
            C.is("never " + one + (m.find() ? " at " + m.group() : ""), m.reset().find(), false);
        }
        Matcher imports = Pattern.compile("^import (.*);", Pattern.MULTILINE).matcher(text);
        while (imports.find()) {
            C.is("import", imports.group(1), "java.util.Arrays");
        }
        Matcher thrown = Pattern.compile("throw new (\\w+)\\((.*?)\\);").matcher(text);
        int throwsFound = 0;
        while (thrown.find()) {
            throwsFound++;
            C.is("a throw of " + thrown.group(1), List.of("IndexOutOfBoundsException", "IllegalArgumentException",
                    "IllegalStateException").contains(thrown.group(1)), true);
            C.is("a written text", thrown.group(2).matches("\"[^\"]*\""), true);
        }
        C.is("every throw is such", bare.split("\\bthrow\\b").length - 1, throwsFound);
        for (int k = 0; k < text.length(); k++) {
            C.is("plain letters", text.charAt(k) < 256, true);
        }
    }

    /** No method has more than some sixty lines. */
    private static void lengths() throws Exception {
        List<String> lines = Files.readAllLines(Path.of("src", "main", "java", "BreedingHouse.java"));
        int start = -1;
        String indent = "";
        for (int k = 0; k < lines.size(); k++) {
            String line = lines.get(k);
            Matcher m = Pattern.compile("^( {4}| {8})(?:(?:public|private|static) )*[\\w\\[\\]]+(?: \\w+)?\\(.*").matcher(line);
            boolean control = line.trim().matches("(return|if|for|while|switch|else|throw)\\b.*") || line.endsWith(";");
            if (start < 0 && m.find() && !control) {
                start = k;
                indent = m.group(1);
            }
            if (start >= 0 && line.equals(indent + "}")) {
                C.is("lines of " + lines.get(start).trim(), k - start + 1 <= 62, true);
                start = -1;
            }
            C.is("line " + (k + 1) + " isn't too long", line.length() <= 120, true);
        }
    }
}
