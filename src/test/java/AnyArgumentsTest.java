/**
 * Calls with arguments from one end of int to the other, in many states: each call answers or throws
 * one of the exceptions that the document lists for it, and none that the Java machine makes.
 */
public final class AnyArgumentsTest {
  private static final int[] ENDS = {
    Integer.MIN_VALUE, Integer.MIN_VALUE + 1, -65536, -256, -2, -1, 23, 24, 30, 255, 256, 400, 401,
    512, 1000, 2000, 65536, 1 << 20, 1 << 24, Integer.MAX_VALUE - 1, Integer.MAX_VALUE
  };

  private static long state = 88172645463325252L;
  private static int wrong;

  private static int below(int bound) {
    state ^= state << 13;
    state ^= state >>> 7;
    state ^= state << 17;
    return (int) ((state >>> 33) % bound);
  }

  private static int anyArgument() {
    return below(4) == 0 ? ENDS[below(ENDS.length)] : below(below(3) == 0 ? 40 : 5);
  }

  private static void call(GroundProver prover, String op, int... arguments) {
    String got = Calls.ask(prover, op, arguments);
    if (got.startsWith("throws") && !Calls.LISTED.get(op).contains(got)) {
      wrong++;
      System.out.println(op + java.util.Arrays.toString(arguments) + " " + got);
    }
  }

  private static void type(GroundProver prover, String text) {
    for (int[] words : Calls.feeds(text)) {
      call(prover, "feed", words);
    }
    call(prover, "trim", text.length());
  }

  public static void main(String[] args) {
    String[] ops = Calls.LISTED.keySet().stream().sorted().toArray(String[]::new);
    String[] symbols = {"a", "b", "f", "g", "h"};
    for (int run = 0; run < 60; run++) {
      GroundProver prover = new GroundProver();
      for (int i = 0; i < below(6); i++) {
        type(prover, symbols[i % 5]);
        call(prover, "declare", i < 2 ? 0 : i - 1, 1);
      }
      for (int i = 0; i < below(4); i++) {
        type(prover, "v" + i);
        call(prover, "declareVariable");
      }
      for (int i = 0; i < 600; i++) {
        anyCall(prover, ops);
      }
    }
    System.out.println("AnyArgumentsTest: " + wrong + " not as due");
    if (wrong != 0) {
      System.exit(1);
    }
  }

  private static void anyCall(GroundProver prover, String[] ops) {
    int kind = below(10);
    if (kind == 0) {
      call(prover, "term", below(8), below(5), below(5), below(5));
    } else if (kind == 1) {
      String[] texts = {"a", "f(a)", "g(v0,f(b))", "h(v0,v1,v2)", "g(a,b)=f(a);", "a!=b;b=f(b);"};
      type(prover, texts[below(texts.length)]);
      call(prover, below(2) == 0 ? "read" : "readTheory");
    } else {
      int[] arguments = new int[5];
      for (int i = 0; i < 5; i++) {
        arguments[i] = anyArgument();
      }
      call(prover, ops[below(ops.length)], arguments);
    }
  }
}
