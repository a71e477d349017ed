import java.lang.reflect.Constructor;
import java.lang.reflect.Field;
import java.lang.reflect.Method;
import java.lang.reflect.Modifier;
import java.util.Arrays;
import java.util.Set;
import java.util.TreeSet;

/** The public face is that of the document, and there is nothing else that is not private. */
public final class FaceTest {
  private static final String I = " throws IndexOutOfBoundsException";
  private static final String A = " throws IllegalArgumentException";
  private static final String S = " throws IllegalStateException";
  private static final String[] FACE = {
    "int feed(int, int, int, int, int)" + S, "int trim(int)" + A,
    "int declare(int, int)" + A + ", IllegalStateException",
    "int declareVariable()" + A + ", IllegalStateException", "int symbolCount()",
    "boolean orderByWeight(boolean)" + S, "int promote(int, int)" + I + ", IllegalStateException",
    "int rankOf(int)" + I, "boolean setDirection(int, boolean)" + I + ", IllegalStateException",
    "int term(int, int, int, int)" + I + ", ArithmeticException", "int read()" + A, "int errorKind()",
    "int errorPosition()", "int termCount()", "int symbolOf(int)" + I, "int argument(int, int)" + I,
    "int size(int)" + I, "int depth(int)" + I, "int compare(int, int)" + I,
    "int occurrences(int, int)" + I, "int replace(int, int, int)" + I + ", ArithmeticException",
    "int write(int)" + I + ", ArithmeticException", "int outputByte(int)" + I,
    "int equate(int, int)" + I + ", IllegalArgumentException, IllegalStateException, ArithmeticException",
    "int separate(int, int)" + I + ", IllegalArgumentException, IllegalStateException",
    "int readTheory()" + A + ", IllegalStateException, ArithmeticException", "int equationCount()",
    "int separationCount()", "boolean isConsistent()", "int conflict() throws NoSuchElementException",
    "int push()" + S, "int pop()" + S, "int ruleCount()", "int ruleLeft(int)" + I,
    "int ruleRight(int)" + I, "int normalForm(int)" + I + ", ArithmeticException",
    "boolean areEqual(int, int)" + I, "boolean dependsOn(int, int, int)" + I, "int stepCount(int)" + I,
    "int afterSteps(int, int)" + I + ", ArithmeticException",
    "long countOfSize(int, int)" + I + ", IllegalArgumentException", "boolean isFinite(int)" + I,
    "int smallest(int)" + I + ", ArithmeticException",
    "int match(int, int)" + I + ", IllegalArgumentException, ArithmeticException",
    "int solution(int, int)" + I + ", NoSuchElementException, ArithmeticException", "long digest()"
  };

  private FaceTest() {}

  public static void main(String[] args) {
    Set<String> due = new TreeSet<>(Arrays.asList(FACE));
    Set<String> found = new TreeSet<>();
    for (Method method : GroundProver.class.getDeclaredMethods()) {
      if (!Modifier.isPrivate(method.getModifiers())) {
        found.add(written(method));
      }
    }
    for (Field field : GroundProver.class.getDeclaredFields()) {
      if (!Modifier.isPrivate(field.getModifiers())) {
        found.add("the field " + field.getName());
      }
    }
    Constructor<?>[] constructors = GroundProver.class.getDeclaredConstructors();
    boolean isRight = found.equals(due)
        && constructors.length == 1
        && constructors[0].toString().equals("public GroundProver()")
        && GroundProver.class.getModifiers() == (Modifier.PUBLIC | Modifier.FINAL);
    if (!isRight) {
      System.out.println("the face is " + found + ", due is " + due);
      System.exit(1);
    }
    System.out.println("FaceTest: all as due");
  }

  private static String written(Method method) {
    StringBuilder text = new StringBuilder();
    text.append(method.getModifiers() == Modifier.PUBLIC ? "" : "not only public: ");
    text.append(method.getReturnType()).append(' ').append(method.getName()).append('(');
    for (int i = 0; i < method.getParameterCount(); i++) {
      text.append(i == 0 ? "" : ", ").append(method.getParameterTypes()[i]);
    }
    text.append(')');
    for (int i = 0; i < method.getExceptionTypes().length; i++) {
      text.append(i == 0 ? " throws " : ", ").append(method.getExceptionTypes()[i].getSimpleName());
    }
    return text.toString();
  }
}
