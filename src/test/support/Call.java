import java.lang.reflect.InvocationTargetException;
import java.lang.reflect.Method;
import java.lang.reflect.Modifier;
import java.util.HashMap;
import java.util.Map;

/** One call of the face with its arguments, written as text: "write(1, 2)"; MAX and MIN are the farthest ints. */
final class Call {
  private static final Map<String, Method> FACE = face();
  private static final Map<String, Call> KNOWN = new HashMap<>();

  final String text;
  private final Method method;
  private final Object[] given;

  private Call(String text) {
    this.text = text;
    int open = text.indexOf('(');
    String inner = text.substring(open + 1, text.indexOf(')')).trim();
    String[] parts = inner.isEmpty() ? new String[0] : inner.split(",");
    given = new Object[parts.length];
    for (int k = 0; k < parts.length; k++) given[k] = value(parts[k].trim());
    method = FACE.get(text.substring(0, open));
    if (method == null) throw new IllegalArgumentException("no such call: " + text);
  }

  static Call of(String text) {
    return KNOWN.computeIfAbsent(text, Call::new);
  }

  private static Map<String, Method> face() {
    Map<String, Method> all = new HashMap<>();
    for (Method m : ReadyBell.class.getDeclaredMethods()) {
      if (Modifier.isPublic(m.getModifiers())) all.put(m.getName(), m);
    }
    return all;
  }

  private static Object value(String part) {
    switch (part) {
      case "true": return true;
      case "false": return false;
      case "MAX": return Integer.MAX_VALUE;
      case "MIN": return Integer.MIN_VALUE;
      default: return Integer.valueOf(part);
    }
  }

  /** True counts 1, false 0. */
  long answer(ReadyBell x) {
    try {
      Object answer = method.invoke(x, given);
      return answer instanceof Boolean b ? (b ? 1 : 0) : ((Number) answer).longValue();
    } catch (InvocationTargetException e) {
      System.out.println(text + " threw " + e.getCause());
      return Long.MIN_VALUE;
    } catch (IllegalAccessException e) {
      throw new IllegalStateException(e);
    }
  }
}
