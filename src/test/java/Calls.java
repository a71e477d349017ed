import java.lang.reflect.InvocationTargetException;
import java.lang.reflect.Method;
import java.lang.reflect.Modifier;
import java.util.HashMap;
import java.util.Map;

/** Calls by name, of both kinds of prover; an answer is a text (a boolean counts 1 or 0). */
final class Calls {
  private static final Map<Class<?>, Map<String, Method>> FACES = new HashMap<>();

  private Calls() {}

  /** Arguments that the call does not have are left out. */
  static String ask(Object prover, String op, int... arguments) {
    Method method = FACES.computeIfAbsent(prover.getClass(), Calls::faceOf).get(op);
    if (method == null) {
      throw new Error("no such call: " + op);
    }
    Class<?>[] types = method.getParameterTypes();
    Object[] given = new Object[types.length];
    for (int i = 0; i < types.length; i++) {
      if (types[i] == boolean.class) {
        given[i] = arguments[i] == 1;
      } else {
        given[i] = arguments[i];
      }
    }
    try {
      Object answer = method.invoke(prover, given);
      return answer instanceof Boolean ? (Boolean) answer ? "1" : "0" : answer == null ? null : "" + answer;
    } catch (InvocationTargetException e) {
      if (e.getCause() instanceof RuntimeException) {
        return "throws " + e.getCause().getClass().getSimpleName();
      }
      throw new Error(op, e.getCause());
    } catch (IllegalAccessException e) {
      throw new Error(e);
    }
  }

  private static Map<String, Method> faceOf(Class<?> kind) {
    Map<String, Method> face = new HashMap<>();
    for (Method method : kind.getDeclaredMethods()) {
      if (!Modifier.isPrivate(method.getModifiers())) {
        face.put(method.getName(), method);
      }
    }
    return face;
  }

  /** What feed has to be called with for a text; blanks fill up the last call. */
  static int[][] feeds(String text) {
    int[][] feeds = new int[Math.max(1, (text.length() + 19) / 20)][5];
    for (int i = 0; i < 20 * feeds.length; i++) {
      int sign = i < text.length() ? text.charAt(i) : ' ';
      feeds[i / 20][i % 20 / 4] = feeds[i / 20][i % 20 / 4] << 8 | sign;
    }
    return feeds;
  }
}
