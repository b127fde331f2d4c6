import java.io.IOException;
import java.lang.reflect.Constructor;
import java.lang.reflect.Field;
import java.lang.reflect.Method;
import java.lang.reflect.Modifier;
import java.nio.file.Files;
import java.nio.file.Path;
import java.util.Map;
import java.util.Set;
import java.util.TreeMap;
import java.util.TreeSet;
import java.util.regex.Matcher;
import java.util.regex.Pattern;

/** The face of the class, and those rules of LANGUAGE.md that a look at the text can tell. */
public final class LanguageTest {
    private static final Check C = new Check("LanguageTest");

    private static final String[] FACE = {
        "int feed(long,int)", "int harbour()", "int set(int,int)", "int lawOf(int)", "int price(int,int)",
        "int quota(int,int)", "int ward(int,int)", "int street(int,int)", "int sleep(int,int,int)",
        "int boat(int,int,int,int)", "int of(int,int)", "int mind(int,int,int)", "int move(int,int)",
        "int mesh(int,int)", "int patch(int)", "int takes(int,int)", "int tears(int)", "int haul(int)",
        "int free(int,int)", "int land(int)", "int bells(int)", "int cast(int)", "int seed(int)", "int night()",
        "int month(int,int)", "int state(int)", "int plan(int,int)", "int stop(int,int,int)",
        "int fine(int,int,int)", "int lasts()", "int shoal(int,int)", "int pieces(int,int)", "int gives()",
        "int when(int,int,int)", "long odds(int,int)", "long hope(int,int,int)", "int prove(int,int)",
        "int row(int,int)", "int alterRow(int,int,int)", "int judge(int)", "int minds(int,int,int,int)",
        "int sheet(int,int,int)", "int put(int,int,int)", "int item(int,int,int)", "int shelf(int,int,int)",
        "int taken(int,int)", "int act(int,int,int)", "int trace(int)", "int many(int)", "int keep()", "int again()",
    };

    public static void main(String[] args) throws IOException {
        face();
        namesOfTheFace(DreamNets.class);
        String code = bare(Files.readString(Path.of("src/main/java/DreamNets.java")));
        words(code);
        methods(code);
        depths(code);
        C.end();
    }

    private static void face() {
        Set<String> due = new TreeSet<>(Set.of(FACE));
        Set<String> is = new TreeSet<>();
        for (Method m : DreamNets.class.getDeclaredMethods()) {
            if (Modifier.isPublic(m.getModifiers())) {
                is.add(m.getReturnType() + " " + m.getName() + parameters(m));
            } else {
                C.holds("1 " + m + " must be private", Modifier.isPrivate(m.getModifiers()));
            }
        }
        C.holds("1 the public methods are " + is, is.equals(due));
        Constructor<?>[] made = DreamNets.class.getDeclaredConstructors();
        C.holds("1 one constructor without arguments", made.length == 1 && made[0].getParameterCount() == 0
                && Modifier.isPublic(made[0].getModifiers()));
        Set<String> constants = new TreeSet<>();
        for (Field f : DreamNets.class.getDeclaredFields()) {
            if (Modifier.isPublic(f.getModifiers())) {
                constants.add(f.getName());
            } else {
                C.holds("1 " + f + " must be private", Modifier.isPrivate(f.getModifiers()));
            }
        }
        C.holds("1 the constants are " + constants, constants.equals(Set.of("BAD", "FULL", "NONE", "STATE")));
        C.due("BAD", DreamNets.BAD, -1);
        C.due("FULL", DreamNets.FULL, -2);
        C.due("NONE", DreamNets.NONE, -3);
        C.due("STATE", DreamNets.STATE, -4);
        C.holds("1 public and final", Modifier.isPublic(DreamNets.class.getModifiers())
                && Modifier.isFinal(DreamNets.class.getModifiers()));
    }

    private static String parameters(Method m) {
        StringBuilder all = new StringBuilder("(");
        for (Class<?> p : m.getParameterTypes()) {
            all.append(all.length() > 1 ? "," : "").append(p);
        }
        return all.append(')').toString();
    }

    private static void namesOfTheFace(Class<?> outer) {
        Set<String> taken = new TreeSet<>();
        for (Method m : outer.getDeclaredMethods()) {
            if (Modifier.isPublic(m.getModifiers())) {
                taken.add(m.getName());
            }
        }
        int classes = 1;
        for (Method m : outer.getDeclaredMethods()) {
            C.holds("1 " + m + " bears a name of the face",
                    Modifier.isPublic(m.getModifiers()) || !taken.contains(m.getName()));
        }
        for (Class<?> inner : outer.getDeclaredClasses()) {
            classes++;
            C.holds("1 " + inner + " must be static", Modifier.isStatic(inner.getModifiers()));
            C.holds("1 " + inner + " may not be public", !Modifier.isPublic(inner.getModifiers()));
            int fields = 0;
            for (Field f : inner.getDeclaredFields()) {
                C.holds("5 " + f, !Modifier.isStatic(f.getModifiers()) || Modifier.isFinal(f.getModifiers()));
                fields += Modifier.isStatic(f.getModifiers()) ? 0 : 1;
            }
            C.holds("11 fields of " + inner, fields <= 20);
            for (Method m : inner.getDeclaredMethods()) {
                C.holds("1 " + m + " bears a name of the face", !taken.contains(m.getName()));
            }
        }
        C.holds("11 twelve classes at most, there are " + classes, classes <= 12);
    }

    /** The text without its comments, and with every literal of signs made empty. */
    private static String bare(String text) {
        return text.replaceAll("(?s)/\\*.*?\\*/", "").replaceAll("//[^\n]*", "")
                .replaceAll("\"[^\"\n]*\"", "\"\"").replaceAll("'[^'\n]+'", "' '");
    }

    private static void words(String code) {
        String[] none = {"throw", "throws", "try", "catch", "finally", "synchronized", "assert", "import", "package",
            "var", "yield", "hashCode", "toString", "volatile", "transient", "native", "strictfp", "Object", "Random",
            "Thread", "Runtime", "Character", "Comparator", "Optional", "Stream", "goto", "protected"};
        for (String word : none) {
            C.holds("no " + word, !Pattern.compile("\\b" + word + "\\b").matcher(code).find());
        }
        C.holds("no lambda", !code.contains("->"));
        C.holds("no method reference", !code.contains("::"));
        C.holds("no annotation", !code.contains("@"));
        C.holds("none of those whose name ends in Exact", !code.contains("Exact"));
        C.holds("texts are not joined by +", !code.contains("\"\" +") && !code.contains("+ \"\""));
        Set<String> library = new TreeSet<>();
        Matcher m = Pattern.compile("\\b(System|Math|Integer|Long|Arrays|List)\\.(\\w+)").matcher(code);
        while (m.find()) {
            library.add(m.group());
        }
        library.removeAll(Set.of("System.arraycopy", "Math.max", "Math.min", "Integer.bitCount"));
        C.holds("4 not looked at yet, from the library: " + library, library.isEmpty());
    }

    private static final Pattern HEAD = Pattern.compile(
            "^( {4}| {8})(?=[a-zA-Z])(?!if|for|while|switch)[\\w\\[\\]<>, ]*?(\\w+)\\(([^)]*)\\) \\{$");

    private static void methods(String code) {
        String[] lines = code.split("\n");
        int found = 0;
        for (int i = 0; i < lines.length; i++) {
            Matcher m = HEAD.matcher(lines[i]);
            if (!m.matches()) {
                continue;
            }
            found++;
            C.holds("11 seven parameters: " + lines[i], m.group(3).split(",").length <= 7);
            int end = i;
            while (end < lines.length && !lines[end].equals(m.group(1) + "}")) {
                end++;
            }
            C.holds("11 some sixty lines: " + lines[i], end - i <= 60);
        }
        C.holds("methods found: " + found, found > 100);
    }

    /** Methods are told by their names: one name that calls itself (a body and its super's) is a recursion. */
    private static void depths(String code) {
        Map<String, Set<String>> calls = new TreeMap<>();
        String method = null;
        for (String line : code.split("\n")) {
            Matcher head = HEAD.matcher(line);
            if (head.matches()) {
                method = head.group(2);
                calls.computeIfAbsent(method, name -> new TreeSet<>());
                continue;
            }
            Matcher m = Pattern.compile("\\b(\\w+)\\(").matcher(line);
            while (method != null && m.find()) {
                calls.get(method).add(m.group(1));
            }
        }
        for (String name : calls.keySet()) {
            int depth = depth(calls, name, new TreeSet<>());
            C.holds("11 calls go " + depth + " deep from " + name, depth <= 8);
        }
        C.due("a chain of the reader", depth(calls, "readNumber", new TreeSet<>()), 3);
        C.due("a chain of the plan", depth(calls, "explore", new TreeSet<>()), 4);
    }

    /** The longest chain of methods from one on; none of them twice. */
    private static int depth(Map<String, Set<String>> calls, String name, Set<String> open) {
        if (!calls.containsKey(name) || !open.add(name)) {
            return 0;
        }
        int deepest = 0;
        for (String called : calls.get(name)) {
            deepest = Math.max(deepest, depth(calls, called, open));
        }
        open.remove(name);
        return deepest + 1;
    }
}
