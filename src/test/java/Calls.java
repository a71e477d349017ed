import java.lang.reflect.InvocationTargetException;
import java.lang.reflect.Method;
import java.lang.reflect.Modifier;
import java.util.HashMap;
import java.util.List;
import java.util.Map;

/** Calls by name, of both kinds of prover; an answer is a text (a boolean counts 1 or 0). */
final class Calls {
  private static final Map<Class<?>, Map<String, Method>> FACES = new HashMap<>();
  private static final String I = "throws IndexOutOfBoundsException";
  private static final String A = "throws IllegalArgumentException";
  private static final String S = "throws IllegalStateException";
  private static final String R = "throws ArithmeticException";
  private static final String N = "throws NoSuchElementException";

  /** The exceptions that the document lists for each call. */
  static final Map<String, List<String>> LISTED = Map.ofEntries(
      Map.entry("feed", List.of(S)), Map.entry("trim", List.of(A)),
      Map.entry("declare", List.of(A, S)), Map.entry("declareVariable", List.of(A, S)),
      Map.entry("symbolCount", List.of()), Map.entry("orderByWeight", List.of(S)),
      Map.entry("promote", List.of(I, S)), Map.entry("rankOf", List.of(I)),
      Map.entry("setDirection", List.of(I, S)), Map.entry("term", List.of(I, R)),
      Map.entry("read", List.of(A)), Map.entry("errorKind", List.of()),
      Map.entry("errorPosition", List.of()), Map.entry("termCount", List.of()),
      Map.entry("symbolOf", List.of(I)), Map.entry("argument", List.of(I)),
      Map.entry("size", List.of(I)), Map.entry("depth", List.of(I)),
      Map.entry("compare", List.of(I)), Map.entry("occurrences", List.of(I)),
      Map.entry("replace", List.of(I, R)), Map.entry("write", List.of(I, R)),
      Map.entry("outputByte", List.of(I)), Map.entry("equate", List.of(I, A, S, R)),
      Map.entry("separate", List.of(I, A, S)), Map.entry("readTheory", List.of(A, S, R)),
      Map.entry("equationCount", List.of()), Map.entry("separationCount", List.of()),
      Map.entry("isConsistent", List.of()), Map.entry("conflict", List.of(N)),
      Map.entry("push", List.of(S)), Map.entry("pop", List.of(S)),
      Map.entry("ruleCount", List.of()), Map.entry("ruleLeft", List.of(I)),
      Map.entry("ruleRight", List.of(I)), Map.entry("normalForm", List.of(I, R)),
      Map.entry("areEqual", List.of(I)), Map.entry("dependsOn", List.of(I)),
      Map.entry("stepCount", List.of(I)), Map.entry("afterSteps", List.of(I, R)),
      Map.entry("countOfSize", List.of(I, A)), Map.entry("isFinite", List.of(I)),
      Map.entry("smallest", List.of(I, R)), Map.entry("match", List.of(I, A, R)),
      Map.entry("solution", List.of(I, N, R)), Map.entry("digest", List.of()));

  private Calls() {}

  /** Arguments that the call does not have are left out. */
  static String ask(Object prover, String op, int... arguments) {
    Method method = FACES.computeIfAbsent(prover.getClass(), Calls::faceOf).get(op);
    if (method == null) {
      throw new Error("no such call: " + op);
    }
    Class<?>[] types = method.getParameterTypes();
    Object[] given = new Object[types.length];
    for (int i = 0; i < types.length; i++) {
      if (types[i] == boolean.class) {
        given[i] = arguments[i] == 1;
      } else {
        given[i] = arguments[i];
      }
    }
    try {
      Object answer = method.invoke(prover, given);
      return answer instanceof Boolean ? (Boolean) answer ? "1" : "0" : answer == null ? null : "" + answer;
    } catch (InvocationTargetException e) {
      if (e.getCause() instanceof RuntimeException) {
        return "throws " + e.getCause().getClass().getSimpleName();
      }
      throw new Error(op, e.getCause());
    } catch (IllegalAccessException e) {
      throw new Error(e);
    }
  }

  private static Map<String, Method> faceOf(Class<?> kind) {
    Map<String, Method> face = new HashMap<>();
    for (Method method : kind.getDeclaredMethods()) {
      if (!Modifier.isPrivate(method.getModifiers())) {
        face.put(method.getName(), method);
      }
    }
    return face;
  }

  /** What feed has to be called with for a text; blanks fill up the last call. */
  static int[][] feeds(String text) {
    int[][] feeds = new int[Math.max(1, (text.length() + 19) / 20)][5];
    for (int i = 0; i < 20 * feeds.length; i++) {
      int sign = i < text.length() ? text.charAt(i) : ' ';
      feeds[i / 20][i % 20 / 4] = feeds[i / 20][i % 20 / 4] << 8 | sign;
    }
    return feeds;
  }
}
