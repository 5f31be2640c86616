import java.io.IOException;
import java.lang.reflect.Constructor;
import java.lang.reflect.Field;
import java.lang.reflect.Method;
import java.lang.reflect.Modifier;
import java.nio.file.Files;
import java.nio.file.Path;
import java.util.Arrays;
import java.util.Set;
import java.util.TreeSet;
import java.util.regex.Matcher;
import java.util.regex.Pattern;
import java.util.stream.Collectors;

/** Holds the class against the document's face, and its source against such rules of LANGUAGE.md as words show. */
public final class RulesTests {
    private static int wrong;

    private static void rule(String what, boolean kept) {
        if (!kept) {
            wrong++;
            System.out.println("not kept: " + what);
        }
    }

    public static void main(String[] args) throws IOException {
        face();
        String source = Files.readString(Path.of("src/main/java/CubeHops.java"));
        String code = source.replaceAll("(?s)/\\*.*?\\*/", "").replaceAll("//[^\n]*", "");
        words(code);
        methods(code);
        System.out.println(wrong == 0 ? "the rules are kept" : wrong + " rules are not kept");
        if (wrong != 0) {
            System.exit(1);
        }
    }

    private static void face() throws IOException {
        String doc = Files.readString(Path.of("../shared/DOC.md"));
        String block = doc.substring(doc.indexOf("```java"), doc.indexOf("```", doc.indexOf("```java") + 3));
        Set<String> promised = new TreeSet<>();
        Matcher m = Pattern.compile("public (int|long) (\\w+)\\(([^)]*)\\);").matcher(block);
        while (m.find()) {
            String types = Arrays.stream(m.group(3).split(",")).map(String::trim).filter(p -> !p.isEmpty())
                    .map(p -> p.split(" ")[0]).collect(Collectors.joining(","));
            promised.add(m.group(1) + " " + m.group(2) + "(" + types + ")");
        }
        Set<String> there = new TreeSet<>();
        for (Method method : CubeHops.class.getDeclaredMethods()) {
            boolean open = !Modifier.isPrivate(method.getModifiers());
            if (open) {
                String types = Arrays.stream(method.getParameterTypes()).map(Class::getName).collect(Collectors.joining(","));
                there.add(method.getReturnType().getName() + " " + method.getName() + "(" + types + ")");
            }
            rule("public or private: " + method, open == Modifier.isPublic(method.getModifiers()));
        }
        rule("the face, " + promised + " against " + there, promised.equals(there) && there.size() == 42);
        Set<String> constants = new TreeSet<>();
        for (Field field : CubeHops.class.getDeclaredFields()) {
            if (!Modifier.isPrivate(field.getModifiers())) {
                constants.add(field.getName());
            }
        }
        rule("the constants", constants.equals(Set.of("BAD", "FULL", "FINDING", "STATE", "SPENT", "NONE")));
        rule("their numbers", CubeHops.BAD == -1 && CubeHops.FULL == -2 && CubeHops.FINDING == -3 && CubeHops.STATE == -4
                && CubeHops.SPENT == -6 && CubeHops.NONE == -9);
        Constructor<?>[] constructors = CubeHops.class.getDeclaredConstructors();
        rule("one constructor", constructors.length == 1 && constructors[0].getParameterCount() == 0
                && Modifier.isPublic(constructors[0].getModifiers()));
        rule("public and final", CubeHops.class.getModifiers() == (Modifier.PUBLIC | Modifier.FINAL));
        Class<?>[] inside = CubeHops.class.getDeclaredClasses();
        rule("at most twelve classes", inside.length < 12);
        fields(CubeHops.class);
        Set<String> names = there.stream().map(s -> s.replaceAll(".* |\\(.*", "")).collect(Collectors.toSet());
        for (Class<?> c : inside) {
            rule("static: " + c, Modifier.isStatic(c.getModifiers()) && !Modifier.isPublic(c.getModifiers()));
            fields(c);
            for (Method method : c.getDeclaredMethods()) {
                rule("a name of its own: " + method, !names.contains(method.getName()));
            }
        }
        for (Method method : CubeHops.class.getDeclaredMethods()) {
            rule("a name of its own: " + method,
                    Modifier.isPublic(method.getModifiers()) || !names.contains(method.getName()));
        }
    }

    private static void fields(Class<?> c) {
        rule("at most twenty fields: " + c, Arrays.stream(c.getDeclaredFields())
                .filter(f -> !Modifier.isStatic(f.getModifiers())).count() <= 20);
    }

    private static void words(String code) {
        for (String word : new String[] {"throw", "throws", "try", "catch", "finally", "synchronized", "assert", "import",
            "package", "protected", "var", "Object", "equals", "hashCode", "toString", "double", "float", "volatile",
            "transient", "native", "instanceof", "default ->", "yield", "super", "goto", "strictfp", "System\\.(?!arraycopy)",
            "Exact"}) {
            rule("no word " + word, !Pattern.compile("\\b" + word + (word.endsWith(")") ? "" : "\\b")).matcher(code).find());
        }
        rule("no lambda, no method reference", !code.contains("->") && !code.contains("::"));
        rule("no text but by signs 1 .. 127", code.chars().allMatch(c -> c >= 1 && c <= 127));
        Matcher calls = Pattern.compile("\\b(Integer|Long|Math|System|Arrays)\\.(\\w+)").matcher(code);
        Set<String> allowed = Set.of("Integer.bitCount", "Long.bitCount", "Math.max", "Math.min", "System.arraycopy");
        while (calls.find()) {
            rule("library: " + calls.group(), allowed.contains(calls.group()));
        }
        Matcher statics = Pattern.compile("\\bstatic (?!final)(?!int|long|boolean|void)(\\w+)").matcher(code);
        rule("static fields are final", !statics.find());
    }

    /** What is made is made as an object is made: no call makes anything. */
    private static void methods(String code) {
        Matcher made = Pattern.compile("(?m)^(.*)\\bnew \\w+").matcher(code);
        while (made.find()) {
            String ahead = made.group(1);
            rule("made in a call: " + made.group(), ahead.contains("final ") || ahead.matches("\\s+(rows|texts|kept)\\[.\\] = ")
                    || ahead.matches("\\s+places = "));
        }
        Matcher heads = Pattern.compile("(?m)^( +)(?:[a-z]+ )*\\w+(?:\\[\\])* \\w+\\(([^)]*)\\) \\{$").matcher(code);
        int methods = 0;
        while (heads.find()) {
            if (!heads.group().contains(" if ") && !heads.group().contains(" for ")) {
                methods++;
                int end = code.indexOf("\n" + heads.group(1) + "}", heads.end());
                long lines = code.substring(heads.start(), end).chars().filter(c -> c == '\n').count();
                rule("at most sixty lines: " + heads.group(), lines <= 60);
                rule("at most seven parameters: " + heads.group(), heads.group(2).split(",").length <= 7);
            }
        }
        rule("methods were looked at", methods > 100);
    }
}
