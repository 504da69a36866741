import java.lang.reflect.Constructor;
import java.lang.reflect.Field;
import java.lang.reflect.Method;
import java.lang.reflect.Modifier;
import java.util.Arrays;
import java.util.Set;
import java.util.TreeSet;

/** The public face, as the document writes it, and promise 1. */
public final class FaceTest {
    private static final String[] METHODS = {
        "write/1", "erase/0", "fault/0", "tell/0", "link/2", "fail/1", "heal/1", "tune/3", "learn/1",
        "undo/0", "seen/1", "next/3", "far/3", "space/3", "rings/1", "safe/1", "order/1", "push/2",
        "clear/0", "segment/2", "repair/4", "trace/1", "untrace/0", "brief/1", "adopt/0", "protect/1",
        "send/1", "way/1", "count/1"
    };

    public static void main(String[] args) {
        constants();
        face();
        newObject();
        Due.end();
    }

    private static void constants() {
        Due.is("NONE", HeaderWays.NONE, -1);
        Due.is("UNKNOWN", HeaderWays.UNKNOWN, -2);
        Due.is("OUTSIDE", HeaderWays.OUTSIDE, -3);
        Due.is("NOT", HeaderWays.NOT, -4);
        Due.is("FULL", HeaderWays.FULL, -5);
    }

    private static void face() {
        Class<?> type = HeaderWays.class;
        Due.isTrue("class is final", Modifier.isFinal(type.getModifiers()));
        Set<String> methods = new TreeSet<>();
        for (Method method : type.getDeclaredMethods()) {
            if (!Modifier.isPrivate(method.getModifiers()) && !method.isSynthetic()) {
                methods.add(method.getName() + "/" + method.getParameterCount());
                Due.isTrue(method + " is public, answers an int",
                    Modifier.isPublic(method.getModifiers()) && method.getReturnType() == int.class);
            }
        }
        Due.isTrue("methods of the face: " + methods, methods.equals(new TreeSet<>(Arrays.asList(METHODS))));
        Set<String> fields = new TreeSet<>();
        for (Field field : type.getDeclaredFields()) {
            if (!Modifier.isPrivate(field.getModifiers())) {
                fields.add(field.getName());
            }
        }
        Due.isTrue("constants of the face: " + fields, fields.equals(
            new TreeSet<>(Arrays.asList("NONE", "UNKNOWN", "OUTSIDE", "NOT", "FULL"))));
        Constructor<?>[] constructors = type.getDeclaredConstructors();
        Due.is("constructors", constructors.length, 1);
        Due.is("parameters of the constructor", constructors[0].getParameterCount(), 0);
    }

    // Promise 1: two nodes, no links, and all that the terms say of the beginning.
    private static void newObject() {
        HeaderWays x = new HeaderWays();
        Due.is("count(0)", x.count(0), 2);
        for (int what = 1; what <= 13; what++) {
            Due.is("count(" + what + ")", x.count(what), 0);
        }
        Due.is("link(0, 0)", x.link(0, 0), HeaderWays.UNKNOWN);
        Due.is("seen(0)", x.seen(0), 0);
        Due.is("seen(1)", x.seen(1), 0);
        Due.is("seen(2)", x.seen(2), HeaderWays.UNKNOWN);
        Due.is("fault()", x.fault(), 0);
        Due.is("undo()", x.undo(), HeaderWays.NOT);
        Due.is("way(-1)", x.way(-1), HeaderWays.NONE);
        Due.is("clear()", x.clear(), 0);
        Due.is("untrace()", x.untrace(), 0);
        Due.is("erase()", x.erase(), 0);
        Due.is("protect(0)", x.protect(0), 0);
        Due.is("order(-1)", x.order(-1), 0);
        HeaderWays y = new HeaderWays();
        Due.tell(y, "nodes 8", 1);
        Due.is("count(0) of the other", x.count(0), 2);
    }
}
