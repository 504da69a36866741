import java.io.IOException;
import java.lang.reflect.Field;
import java.lang.reflect.Method;
import java.lang.reflect.Modifier;
import java.util.ArrayList;
import java.util.List;
import java.util.Set;
import java.util.TreeMap;
import java.util.TreeSet;

/** Those rules of LANGUAGE.md that are seen best in what the program is compiled to. */
public final class CompiledTest {
    private static final int DEEPEST = 8, MOST_FIELDS = 20;
    private static final String LIBRARY =
        "java\\.lang\\.Object\\.<init>|java\\.lang\\.System\\.arraycopy"
        + "|java\\.lang\\.(Integer|Long|Math)\\.(abs|bitCount|compare|floorDiv|floorMod|max|min)"
        + "|java\\.lang\\.String\\.(length|charAt|isEmpty|equals|indexOf|substring|toCharArray)"
        + "|java\\.lang\\.StringBuilder\\.(<init>|append|charAt|setCharAt|setLength|deleteCharAt|reverse|length|toString)"
        + "|java\\.util\\.Arrays\\.(copyOf|copyOfRange|fill)";

    private static TreeMap<String, Compiled.Method> methods = new TreeMap<>();

    public static void main(String[] args) throws IOException {
        methods = Compiled.methodsOf(HeaderWays.class);
        Due.isTrue("methods are found: " + methods.size(), methods.size() > 90);
        for (String name : methods.keySet()) {
            method(name, methods.get(name));
            follow(name, new ArrayList<>());
        }
        parts(HeaderWays.class);
        for (Class<?> inner : HeaderWays.class.getDeclaredClasses()) {
            Due.isTrue(inner + " is static", Modifier.isStatic(inner.getModifiers()));
            parts(inner);
        }
        Due.end();
    }

    private static void parts(Class<?> type) {
        names(type);
        fields(type);
    }

    // Rules 4, 6 and 12; the rows that are made in constructors are used again by all calls.
    private static void method(String name, Compiled.Method method) {
        for (String call : method.calls) {
            String plain = call.substring(0, call.indexOf('(') < 0 ? call.length() : call.indexOf('('));
            Due.isTrue(name + " may call " + call, methods.containsKey(call) || plain.matches(LIBRARY));
        }
        Due.is("what " + name + " throws", method.thrown, 0);
        Due.is("what " + name + " catches", method.caught, 0);
        Due.is("what " + name + " casts", method.casts, 0);
        if (!name.contains(".<init>")) {
            Due.is("what " + name + " makes", method.made, 0);
        }
    }

    // Rules 8 and 11: no method comes to itself again, and calls go eight deep at most.
    private static void follow(String name, List<String> open) {
        Due.isTrue("no recursion: " + open + " " + name, !open.contains(name));
        Due.isTrue("calls go " + DEEPEST + " deep at most: " + open + " " + name, open.size() < DEEPEST);
        if (open.contains(name) || open.size() >= DEEPEST || !methods.containsKey(name)) {
            return;
        }
        open.add(name);
        for (String call : methods.get(name).calls) {
            follow(call, open);
        }
        open.remove(open.size() - 1);
    }

    // Rule 1, of the classes inside too.
    private static void names(Class<?> type) {
        Set<String> face = new TreeSet<>();
        for (Method method : HeaderWays.class.getMethods()) {
            face.add(method.getName());
        }
        for (Method method : type.getDeclaredMethods()) {
            if (!Modifier.isPublic(method.getModifiers())) {
                Due.isTrue(method + " has a name of its own", !face.contains(method.getName()));
            }
        }
    }

    // Rules 3, 5 and 11.
    private static void fields(Class<?> type) {
        int own = 0;
        for (Field field : type.getDeclaredFields()) {
            Class<?> of = field.getType().isArray() ? field.getType().getComponentType() : field.getType();
            boolean plain = of.isPrimitive() && of != float.class && of != double.class;
            Due.isTrue(field + " is of a type that may be", plain || of.getName().startsWith("HeaderWays$"));
            if (Modifier.isStatic(field.getModifiers())) {
                Due.isTrue(field + " is a constant", Modifier.isFinal(field.getModifiers()) && plain);
            } else {
                own++;
            }
        }
        Due.isTrue(type + " has some " + MOST_FIELDS + " fields at most: " + own, own <= MOST_FIELDS);
    }
}
