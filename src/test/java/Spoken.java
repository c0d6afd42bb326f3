import java.lang.reflect.Method;
import java.util.ArrayList;
import java.util.HashMap;
import java.util.List;
import java.util.Map;

/** A desk to which calls are told as text: "parish(100)", with numbers, true, false, or names that stand for numbers. */
final class Spoken {
    private final PoorDesk desk = new PoorDesk();
    private final Map<String, Integer> names = new HashMap<>();

    void name(String name, int number) {
        names.put(name, number);
    }

    int call(String text) {
        int open = text.indexOf('(');
        String name = text.substring(0, open);
        String inside = text.substring(open + 1, text.lastIndexOf(')')).trim();
        List<Object> arguments = new ArrayList<>();
        for (String word : inside.isEmpty() ? new String[0] : inside.split(", ")) {
            arguments.add(argument(word));
        }
        for (Method m : PoorDesk.class.getMethods()) {
            if (m.getName().equals(name) && m.getParameterCount() == arguments.size()) {
                return answer(m, arguments.toArray());
            }
        }
        throw new IllegalArgumentException("no such call: " + text);
    }

    private Object argument(String word) {
        if (word.equals("true") || word.equals("false")) {
            return Boolean.valueOf(word);
        }
        return names.containsKey(word) ? names.get(word) : Integer.valueOf(word);
    }

    private int answer(Method m, Object[] arguments) {
        try {
            return (Integer) m.invoke(desk, arguments);
        } catch (ReflectiveOperationException e) {
            throw new IllegalStateException(m.getName() + " failed", e);
        }
    }
}
