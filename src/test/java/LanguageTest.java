import java.lang.reflect.Constructor;
import java.lang.reflect.Field;
import java.lang.reflect.Member;
import java.lang.reflect.Method;
import java.lang.reflect.Modifier;
import java.nio.file.Files;
import java.nio.file.Path;
import java.util.Arrays;
import java.util.Comparator;
import java.util.List;
import java.util.Map;
import java.util.Random;
import java.util.Set;
import java.util.TreeMap;
import java.util.TreeSet;
import java.util.regex.Matcher;
import java.util.regex.Pattern;

// The public face, the rules of LANGUAGE.md that a program can look at, and that no call ever throws.
public final class LanguageTest {
    private static final String[] FACE = {
        "int acknowledge(int,int,int)", "int addLinkset(int)", "int addRoute(int,int,int)", "int congested()",
        "int congestion(int,int)", "int currentLink(int,int)", "int currentRoutes(int)", "int delivered()",
        "long digest()", "int errorCount(int)", "int failLink(int,int)", "int heldMessages()", "int isActive(int,int)",
        "int isHeld(int,int)", "int lost()", "int overtaken()", "int queueLength(int,int)", "int queued(int,int,int)",
        "int removeRoute(int,int)", "int restoreLink(int,int)", "int routeState(int,int)", "int send(int,int,int)",
        "int setHoldTime(int)", "int setRouteState(int,int,int)", "int spread(int)", "int tick()", "int time()",
        "int undo()", "int unreachable()"
    };
    private static final String[] CONSTANTS = {
        "ALLOWED = 0", "FULL = -4", "INVALID = -2", "NONE = -1", "PROHIBITED = 2", "REJECTED = -3", "RESTRICTED = 1"
    };
    private static final Pattern HEADER = Pattern.compile("( {4}| {8})(?:public|private) [^=;(]*?(\\w+)\\(.*\\{");

    private static int wrong = 0;

    public static void main(String[] args) throws Exception {
        theFaceIsTheDocuments();
        membersKeepToTheRules();
        theSourceKeepsToTheRules();
        noCallThrows();
        System.out.println(wrong == 0 ? "the rules are kept" : wrong + " rules are broken");
        if (wrong != 0) {
            System.exit(1);
        }
    }

    private static void check(String what, boolean holds) {
        if (!holds) {
            wrong++;
            System.out.println("broken: " + what);
        }
    }

    private static void theFaceIsTheDocuments() throws Exception {
        Class<?> c = SignallingPoint.class;
        check("the class is public and final", c.getModifiers() == (Modifier.PUBLIC | Modifier.FINAL));
        Set<String> methods = new TreeSet<>();
        for (Method m : c.getDeclaredMethods()) {
            if (!Modifier.isPrivate(m.getModifiers())) {
                check(m + " is public and not static", m.getModifiers() == Modifier.PUBLIC);
                String parameters = String.join(",", Arrays.stream(m.getParameterTypes()).map(Class::getName).toList());
                methods.add(m.getReturnType() + " " + m.getName() + "(" + parameters + ")");
            }
        }
        check("the methods are the document's: " + methods, methods.equals(new TreeSet<>(List.of(FACE))));
        Set<String> constants = new TreeSet<>();
        for (Field f : c.getDeclaredFields()) {
            if (!Modifier.isPrivate(f.getModifiers())) {
                boolean isConstant = f.getType() == int.class
                    && f.getModifiers() == (Modifier.PUBLIC | Modifier.STATIC | Modifier.FINAL);
                check(f + " is an int constant", isConstant);
                constants.add(isConstant ? f.getName() + " = " + f.getInt(null) : f.getName());
            }
        }
        check("the constants are the document's: " + constants, constants.equals(new TreeSet<>(List.of(CONSTANTS))));
        Constructor<?>[] constructors = c.getDeclaredConstructors();
        check("one public constructor", constructors.length == 1 && constructors[0].getParameterCount() == 0
            && constructors[0].getModifiers() == Modifier.PUBLIC);
    }

    private static void membersKeepToTheRules() {
        Class<?>[] inside = SignallingPoint.class.getDeclaredClasses();
        check("rule 11: at most twelve classes", inside.length < 12);
        Set<String> publicNames = new TreeSet<>();
        for (Method m : SignallingPoint.class.getMethods()) {
            publicNames.add(m.getName());
        }
        for (Method m : SignallingPoint.class.getDeclaredMethods()) {
            checkMethod(m, publicNames);
        }
        checkFields(SignallingPoint.class);
        for (Class<?> c : inside) {
            int access = c.getModifiers() & (Modifier.PUBLIC | Modifier.PROTECTED);
            check("rule 1: " + c + " is static and not public", access == 0 && Modifier.isStatic(c.getModifiers()));
            for (Method m : c.getDeclaredMethods()) {
                checkMethod(m, publicNames);
            }
            checkFields(c);
        }
    }

    private static void checkMethod(Method m, Set<String> publicNames) {
        boolean isFace = Modifier.isPublic(m.getModifiers());
        check("rule 1: " + m + " bears a public name", isFace || !publicNames.contains(m.getName()));
        check("rule 11: " + m + " has too many parameters", m.getParameterCount() <= 7);
    }

    private static void checkFields(Class<?> c) {
        int own = 0;
        for (Field f : c.getDeclaredFields()) {
            if (Modifier.isStatic(f.getModifiers())) {
                check("rule 5: " + f, Modifier.isFinal(f.getModifiers()));
            } else {
                own++;
            }
        }
        check("rule 11: the fields of " + c, own <= 20);
    }

    private static void theSourceKeepsToTheRules() throws Exception {
        String source = Files.readString(Path.of("src/main/java/SignallingPoint.java"));
        String code = source.replaceAll("(?s)/\\*.*?\\*/", " ").replaceAll("//[^\n]*", " ");
        for (String word : new String[] {"throw", "throws", "try", "catch", "finally", "synchronized", "assert",
                "package", "volatile", "transient", "native", "var", "Object", "Thread", "Random", "Exception"}) {
            check("rule 6: the word " + word, !Pattern.compile("\\b" + word + "\\b").matcher(code).find());
        }
        check("rule 2: lambda or method reference", !code.contains("->") && !code.contains("::"));
        check("rule 4: a function that ends in Exact", !code.contains("Exact("));
        check("rule 5: static block", !Pattern.compile("\\bstatic\\s*\\{").matcher(code).find());
        check("rule 3: signs beyond ASCII", code.chars().allMatch(sign -> sign < 128));
        Matcher imports = Pattern.compile("\\bimport\\s+([^;]+);").matcher(code);
        while (imports.find()) {
            check("rule 4: import " + imports.group(1),
                List.of("java.util.Arrays", "java.util.ArrayList", "java.util.List").contains(imports.group(1)));
        }
        Matcher calls = Pattern.compile("\\b(System|Arrays|Math|Integer|Long)\\s*\\.\\s*(\\w+)").matcher(code);
        while (calls.find()) {
            check("rule 4: " + calls.group(), List.of("System.arraycopy", "Arrays.fill", "Math.min", "Math.max",
                "Math.floorDiv", "Math.floorMod", "Integer.bitCount").contains(calls.group(1) + "." + calls.group(2)));
        }
        Map<String, String> bodies = bodiesOfMethods(code);
        check("every public method was found", bodies.keySet().size() > FACE.length);
        for (String name : bodies.keySet()) {
            check("rule 11: the length of " + name, bodies.get(name).lines().count() <= 60);
        }
        callsStayShallow(bodies);
    }

    /** The lines of each method and constructor, by its name. */
    private static Map<String, String> bodiesOfMethods(String code) {
        Map<String, String> bodies = new TreeMap<>();
        String name = null;
        String margin = "";
        StringBuilder body = new StringBuilder();
        for (String line : code.split("\n")) {
            Matcher header = HEADER.matcher(line.stripTrailing());
            if (name != null && line.stripTrailing().equals(margin + "}")) {
                check("two methods are called " + name, bodies.put(name, body.toString()) == null);
                name = null;
            } else if (name != null) {
                body.append(line).append('\n');
            } else if (header.matches() && !line.contains(" class ")) {
                margin = header.group(1);
                name = header.group(2);
                body.setLength(0);
            }
        }
        check("the last method has an end", name == null);
        return bodies;
    }

    private static void callsStayShallow(Map<String, String> bodies) {
        // No name is borne twice, so a name before a bracket tells which method is called.
        Map<String, Set<String>> called = new TreeMap<>();
        for (String caller : bodies.keySet()) {
            Set<String> names = new TreeSet<>();
            Matcher call = Pattern.compile("(\\w+)\\(").matcher(bodies.get(caller));
            while (call.find()) {
                if (bodies.containsKey(call.group(1))) {
                    names.add(call.group(1));
                }
            }
            called.put(caller, names);
        }
        Set<String> reached = new TreeSet<>(called.keySet());
        int depth = 0;
        while (!reached.isEmpty() && depth < 8) {
            depth++;
            Set<String> next = new TreeSet<>();
            reached.forEach(caller -> next.addAll(called.get(caller)));
            reached = next;
        }
        check("rules 8 and 11: calls go deeper than eight, to " + reached, reached.isEmpty());
    }

    /** Far more calls than are promised, with any arguments; an exception ends the test. */
    private static void noCallThrows() throws Exception {
        Method[] methods = SignallingPoint.class.getDeclaredMethods();
        methods = Arrays.stream(methods).filter(m -> Modifier.isPublic(m.getModifiers()))
            .sorted(Comparator.comparing(Member::getName)).toArray(Method[]::new);
        Random random = new Random(77);
        for (int object = 0; object < 20; object++) {
            SignallingPoint x = new SignallingPoint();
            for (int call = 0; call < 20000; call++) {
                Method m = methods[random.nextInt(methods.length)];
                Object[] a = new Object[m.getParameterCount()];
                for (int i = 0; i < a.length; i++) {
                    a[i] = random.nextInt(50) == 0 ? random.nextInt() : random.nextInt(random.nextInt(17) + 1);
                }
                m.invoke(x, a);
            }
        }
    }
}
