import java.lang.reflect.InvocationTargetException;
import java.lang.reflect.Method;
import java.util.ArrayList;
import java.util.HashMap;
import java.util.List;
import java.util.Map;

/** A call of the face, told as a text: "move(0, 3, 4)", "pack(true)", "type('x')", "type(65535)". */
final class Call {
    private static final Map<String, Method> METHODS = methods();
    private static final Map<String, Call> KNOWN = new HashMap<>();

    private final String text;
    private final Method method;
    private final Object[] arguments;

    private Call(String text) {
        this.text = text;
        int open = text.indexOf('(');
        method = METHODS.get(text.substring(0, open));
        String inside = text.substring(open + 1, text.length() - 1);
        String[] words = inside.isEmpty() ? new String[0] : inside.split(", ");
        Class<?>[] types = method.getParameterTypes();
        if (types.length != words.length) {
            throw new IllegalArgumentException("no call of the face: " + text);
        }
        arguments = new Object[words.length];
        for (int i = 0; i < words.length; i++) {
            arguments[i] = argument(types[i], words[i]);
        }
    }

    static Call of(String text) {
        return KNOWN.computeIfAbsent(text, Call::new);
    }

    private static Map<String, Method> methods() {
        Map<String, Method> methods = new HashMap<>();
        for (Method method : SpriteLines.class.getMethods()) {
            if (method.getDeclaringClass() == SpriteLines.class) {
                methods.put(method.getName(), method);
            }
        }
        return methods;
    }

    private static Object argument(Class<?> type, String word) {
        if (type == boolean.class) {
            return Boolean.valueOf(word);
        }
        if (type == char.class) {
            return word.charAt(0) == '\'' ? word.charAt(1) : (char) Integer.parseInt(word);
        }
        return Integer.valueOf(word);
    }

    double answer(SpriteLines lines) {
        return answer(method, lines);
    }

    /** What the second writing of the document answers. */
    double answer(PlainSpriteLines plain) {
        try {
            return answer(PlainSpriteLines.class.getMethod(method.getName(),
                    method.getParameterTypes()), plain);
        } catch (NoSuchMethodException missing) {
            throw new IllegalStateException("PlainSpriteLines has no " + method.getName(), missing);
        }
    }

    private double answer(Method called, Object object) {
        try {
            return ((Number) called.invoke(object, arguments)).doubleValue();
        } catch (InvocationTargetException thrown) {
            throw new IllegalStateException(text + " threw " + thrown.getCause(), thrown.getCause());
        } catch (IllegalAccessException notPublic) {
            throw new IllegalStateException(text + " is not public", notPublic);
        }
    }

    /** Makes the calls of a list on a new object. */
    static SpriteLines made(List<String> calls) {
        SpriteLines lines = new SpriteLines();
        for (String call : calls) {
            of(call).answer(lines);
        }
        return lines;
    }

    /** The calls that a text of pixels is typed with. */
    static List<String> typing(String text) {
        List<String> calls = new ArrayList<>();
        for (char character : text.toCharArray()) {
            calls.add(character > 32 && character < 127 ? "type('" + character + "')"
                    : "type(" + (int) character + ")");
        }
        return calls;
    }

    /** A list of calls in short: what is typed as one text, and the same calls counted. */
    static String told(List<String> calls) {
        StringBuilder told = new StringBuilder();
        for (int from = 0; from < calls.size();) {
            String call = calls.get(from);
            int to = from + 1;
            if (call.startsWith("type('")) {
                told.append(" typed \"").append(call.charAt(6));
                for (; to < calls.size() && calls.get(to).startsWith("type('"); to++) {
                    told.append(calls.get(to).charAt(6));
                }
                told.append('"');
            } else {
                while (to < calls.size() && calls.get(to).equals(call)) {
                    to++;
                }
                told.append(' ').append(to - from > 1 ? to - from + " times " : "").append(call);
            }
            from = to;
        }
        return "[" + told.toString().strip() + "]";
    }
}
