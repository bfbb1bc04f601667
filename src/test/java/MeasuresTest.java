import java.io.IOException;
import java.lang.reflect.Field;
import java.lang.reflect.Method;
import java.lang.reflect.Modifier;
import java.nio.file.Files;
import java.nio.file.Path;
import java.util.ArrayList;
import java.util.List;
import java.util.Map;
import java.util.Set;
import java.util.TreeMap;
import java.util.TreeSet;
import java.util.regex.Matcher;
import java.util.regex.Pattern;

/** The measures of LANGUAGE.md: rules 1, 5, 8 and 11; run from the project's folder. */
final class MeasuresTest {
    private static final int MOST_DEEP = 8;
    private static final int MOST_LINES = 60;
    private static final int MOST_CLASSES = 12;
    private static final int MOST_FIELDS = 20;
    private static final int MOST_PARAMETERS = 7;

    private static final Pattern CLASS = Pattern.compile("\\b(?:class|interface) (\\w+)(?: extends (\\w+))?[^{]*\\{");
    private static final Pattern METHOD = Pattern.compile(
        "\\n +(?:(?:public|private|static|abstract|final) )*(?:[\\w\\[\\]]+ )?(\\w+)\\([^()]*\\)\\s*(?:throws [\\w,\\s]+)?\\{");
    private static final Pattern CALL = Pattern.compile("(\\bnew )?(\\bsuper\\.)?\\b(\\w+)\\(");

    // Methods and constructors as Class.name; a constructor's name is its class's.
    private static final Map<String, String> BODIES = new TreeMap<>();
    private static final Map<String, String> PARENTS = new TreeMap<>();

    public static void main(String[] args) throws IOException {
        String source = Files.readString(Path.of("src/main/java/FaultMill.java"));
        read(source.replaceAll("(?s)/\\*.*?\\*/", "").replaceAll("//.*", "").replaceAll("\"[^\"]*\"", "\"\""));
        Bench.due("classes", "" + (PARENTS.size() <= MOST_CLASSES), "true");
        for (String each : BODIES.keySet()) {
            int lines = BODIES.get(each).split("\n").length;
            Bench.due("lines of " + each + " (" + lines + ")", "" + (lines <= MOST_LINES), "true");
        }
        for (String each : new String[] {"FaultMill", "op", "load", "run", "acc", "count"}) {
            List<String> chain = deepest("FaultMill." + each, new ArrayList<>());
            Bench.due("calls of " + chain, "" + (chain.size() <= MOST_DEEP), "true");
        }
        knowsItsOwnChains();
        members(FaultMill.class);
        for (Class<?> each : FaultMill.class.getDeclaredClasses()) {
            members(each);
        }
        namesOfTheFace();
        Bench.finish();
    }

    /** That the chains are found at all, and with them constructors and what they call above them. */
    private static void knowsItsOwnChains() {
        List<String> making = deepest("FaultMill.makeBox", new ArrayList<>());
        Bench.due("the chain of makeBox", making.toString(), "[FaultMill.makeBox, Ball.Ball, Disc.Disc, Box.Box, Thing.Thing]");
        List<String> weighing = deepest("Ball.weight", new ArrayList<>());
        Bench.due("the chain of a BALL's weight", weighing.toString(), "[Ball.weight, Disc.weight]");
        Bench.due("methods were read", "" + (BODIES.size() > 80), "true");
    }

    private static void read(String code) {
        Matcher each = CLASS.matcher(code);
        while (each.find()) {
            PARENTS.put(each.group(1), each.group(2) == null ? "" : each.group(2));
        }
        Matcher method = METHOD.matcher(code);
        while (method.find()) {
            String name = method.group(1);
            if (!Set.of("if", "for", "while", "switch").contains(name)) {
                BODIES.put(classAt(code, method.start()) + "." + name, block(code, method.end() - 1));
            }
        }
        for (String name : PARENTS.keySet()) {
            // One that is not written is there all the same.
            BODIES.putIfAbsent(name + "." + name, "{}");
        }
    }

    private static String block(String code, int open) {
        int depth = 0;
        int end = open;
        do {
            depth += code.charAt(end) == '{' ? 1 : code.charAt(end) == '}' ? -1 : 0;
            end++;
        } while (depth > 0);
        return code.substring(open, end);
    }

    private static String classAt(String code, int position) {
        String name = "";
        Matcher each = CLASS.matcher(code);
        while (each.find() && each.start() < position) {
            if (position < each.end() + block(code, each.end() - 1).length()) {
                name = each.group(1);
            }
        }
        return name;
    }

    /** The longest chain of calls from a method on, itself first; no method may call itself. */
    private static List<String> deepest(String method, List<String> above) {
        List<String> chain = new ArrayList<>(List.of(method));
        if (above.contains(method)) {
            Bench.due("calls that come back", above + " " + method, "none");
            return chain;
        }
        List<String> now = new ArrayList<>(above);
        now.add(method);
        List<String> longest = List.of();
        for (String called : calledBy(method)) {
            List<String> below = deepest(called, now);
            longest = below.size() > longest.size() ? below : longest;
        }
        chain.addAll(longest);
        return chain;
    }

    private static Set<String> calledBy(String method) {
        String owner = method.substring(0, method.indexOf('.'));
        Set<String> called = new TreeSet<>();
        Matcher call = CALL.matcher(BODIES.get(method));
        while (call.find()) {
            String name = call.group(3);
            if (call.group(1) != null) {
                addIfOwn(called, name + "." + name);
            } else if (call.group(2) != null) {
                addIfOwn(called, PARENTS.get(owner) + "." + name);
            } else {
                // By its name alone it may be any class's.
                PARENTS.keySet().forEach(each -> addIfOwn(called, each + "." + name));
            }
        }
        if (method.equals(owner + "." + owner)) {
            addIfOwn(called, PARENTS.get(owner) + "." + PARENTS.get(owner));
        }
        return called;
    }

    private static void addIfOwn(Set<String> called, String name) {
        if (BODIES.containsKey(name)) {
            called.add(name);
        }
    }

    private static void members(Class<?> type) {
        int own = 0;
        for (Field each : type.getDeclaredFields()) {
            boolean fixed = Modifier.isStatic(each.getModifiers());
            own += fixed ? 0 : 1;
            Bench.due("static " + each.getName() + " is a final int", "" + (!fixed || Modifier.isFinal(each.getModifiers()) && each.getType() == int.class), "true");
        }
        Bench.due("fields of " + type.getSimpleName(), "" + (own <= MOST_FIELDS), "true");
        for (Method each : type.getDeclaredMethods()) {
            Bench.due("parameters of " + each.getName(), "" + (each.getParameterCount() <= MOST_PARAMETERS), "true");
        }
    }

    private static void namesOfTheFace() {
        Set<String> face = Set.of("op", "load", "run", "acc", "count");
        for (Method each : FaultMill.class.getDeclaredMethods()) {
            if (Modifier.isPrivate(each.getModifiers())) {
                Bench.due("private " + each.getName() + " bears a public one's name", "" + face.contains(each.getName()), "false");
            }
        }
    }
}
