import java.lang.reflect.Method;
import java.util.ArrayList;
import java.util.HashMap;
import java.util.List;
import java.util.Map;

/** An object and the calls that it was asked, told as texts; it is used for 512 of them at most. */
final class Used {
    private static final int MOST_CALLS = 512;
    private static final Map<String, Method> METHODS = methods();
    private static final Map<String, Call> CALLS = new HashMap<>();

    private record Call(Method method, Object[] numbers) {
    }

    private final HeaderWays x = new HeaderWays();
    private final List<String> asked = new ArrayList<>();

    Used() {
    }

    /** An object that was asked these calls. */
    Used(List<String> calls) {
        for (String call : calls) {
            ask(call);
        }
    }

    private static Map<String, Method> methods() {
        Map<String, Method> all = new HashMap<>();
        for (Method method : HeaderWays.class.getMethods()) {
            if (method.getDeclaringClass() == HeaderWays.class) {
                all.put(method.getName() + "/" + method.getParameterCount(), method);
            }
        }
        return all;
    }

    static int number(String word) {
        String plain = word.trim();
        if (plain.equals("LEAST")) {
            return Integer.MIN_VALUE;
        }
        return plain.equals("MOST") ? Integer.MAX_VALUE : Integer.parseInt(plain);
    }

    List<String> asked() {
        return asked;
    }

    void write(String text) {
        for (int i = 0; i < text.length(); i++) {
            ask("write(" + (int) text.charAt(i) + ")");
        }
    }

    int ask(String call) {
        asked.add(call);
        if (asked.size() > MOST_CALLS) {
            throw new IllegalStateException("a test asks more than " + MOST_CALLS + " calls: " + asked);
        }
        Call read = CALLS.computeIfAbsent(call, Used::read);
        try {
            return (Integer) read.method.invoke(x, read.numbers);
        } catch (ReflectiveOperationException e) {
            throw new IllegalStateException(call + " behind " + asked, e);
        }
    }

    private static Call read(String call) {
        int open = call.indexOf('(');
        String inside = call.substring(open + 1, call.length() - 1).trim();
        String[] words = inside.isEmpty() ? new String[0] : inside.split(",");
        Object[] numbers = new Object[words.length];
        for (int i = 0; i < words.length; i++) {
            numbers[i] = number(words[i]);
        }
        Method method = METHODS.get(call.substring(0, open) + "/" + words.length);
        if (method == null) {
            throw new IllegalArgumentException("no such call: " + call);
        }
        return new Call(method, numbers);
    }
}
