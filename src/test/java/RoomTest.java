import java.lang.reflect.Array;
import java.lang.reflect.Field;
import java.lang.reflect.Modifier;
import java.util.ArrayDeque;
import java.util.ArrayList;
import java.util.IdentityHashMap;
import java.util.List;
import java.util.Map;

/**
 * Runs of 512 calls that need as much room as calls can, and whether what an object holds after
 * them stays within it: 600,000 objects and arrays, with 7.3 million fields and elements. (As rows
 * are kept and used again, what is held is nearly all that has been made.)
 */
public final class RoomTest {
  private static final int MOST_OBJECTS = 600_000;
  private static final long MOST_CELLS = 7_300_000;
  // Where no term stays, not many have to be held at the same time.
  private static final long FEW_CELLS = 120_000;

  private final String name;
  private final GroundProver prover = new GroundProver();
  private int calls;

  private RoomTest(String name) {
    this.name = name;
  }

  public static void main(String[] args) throws IllegalAccessException {
    boolean isWithin = new RoomTest("a new object").isWithinRoom(FEW_CELLS);
    isWithin &= manyLargeTerms();
    isWithin &= manyLargeEquations();
    isWithin &= manyLargeNormalForms();
    isWithin &= manySolutions();
    isWithin &= manyTermsDropped();
    System.out.println("RoomTest: " + (isWithin ? "within its room" : "beyond its room"));
    if (!isWithin) {
      System.exit(1);
    }
  }

  private String ask(String op, int... arguments) {
    calls++;
    return Calls.ask(prover, op, arguments);
  }

  private int answer(String op, int... arguments) {
    String got = ask(op, arguments);
    return got.startsWith("throws") ? -1 : Integer.parseInt(got);
  }

  private void type(String text) {
    for (int[] words : Calls.feeds(text)) {
      ask("feed", words);
    }
    ask("trim", text.length());
  }

  /** Constants 0 to 7, functions 8 to 19 of one argument, 20 of two. */
  private void declareAll() {
    for (int i = 0; i < 21; i++) {
      type("s" + (char) ('a' + i));
      ask("declare", i < 8 ? 0 : i < 20 ? 1 : 2, 1);
    }
  }

  /** The constants get the numbers 0 to 7. */
  private void makeConstants() {
    for (int i = 0; i < 8; i++) {
      ask("term", i, 0, 0, 0);
    }
  }

  /** A term with the first three constants, doubled a number of times, each time with new subterms. */
  private int grown(int doublings) {
    int t = answer("term", 20, 0, answer("term", 20, 1, 2, 0), 0);
    for (int i = 0; i < doublings; i++) {
      int shifted = t;
      for (int k = 0; k < 3; k++) {
        shifted = answer("replace", shifted, k, answer("term", 8 + i, k, 0, 0));
      }
      t = answer("term", 20, t, shifted, 0);
    }
    return t;
  }

  private static boolean manyLargeTerms() throws IllegalAccessException {
    RoomTest test = new RoomTest("many large terms");
    test.declareAll();
    test.makeConstants();
    int t = test.grown(6);
    for (int i = 0; i < 8; i++) {
      int first = i == 0 ? t : test.answer("replace", t, 0, i);
      for (int k = 0; k < 8; k++) {
        int second = k == 1 ? first : test.answer("replace", first, 1, k);
        for (int n = 0; n < 8 && test.calls < 508 && k != 2; n++) {
          test.ask("replace", second, 2, n);
        }
      }
    }
    test.ask("compare", t, t + 1);
    return test.isWithinRoom(MOST_CELLS);
  }

  private static boolean manyLargeEquations() throws IllegalAccessException {
    RoomTest test = new RoomTest("many large equations");
    test.declareAll();
    test.makeConstants();
    int t = test.grown(6);
    List<Integer> large = new ArrayList<>();
    for (int i = 0; i < 8; i++) {
      large.add(test.answer("replace", t, 0, i));
      large.add(test.answer("replace", large.get(2 * i), 1, i));
    }
    for (int i = 1; i < 8; i++) {
      test.ask("equate", 0, i);
    }
    for (int i = 0; i < 22; i++) {
      test.ask("equate", large.get(i % 16), large.get((i + 1) % 16));
    }
    while (test.calls < 500) {
      test.ask("push");
      test.ask("equate", 0, test.answer("term", 8, test.calls % 8, 0, 0));
      test.ask("dependsOn", large.get(0), large.get(5), test.calls % 29);
      test.ask("smallest", large.get(test.calls % 8));
      test.ask("pop");
    }
    return test.isWithinRoom(MOST_CELLS);
  }

  /** Constants whose normal forms have 300 different subterms. */
  private static boolean manyLargeNormalForms() throws IllegalAccessException {
    RoomTest test = new RoomTest("many large normal forms");
    test.declareAll();
    for (int i = 3; i < 8; i++) {
      test.ask("promote", 3, 20);
    }
    // The symbols 3 to 7 are now the greatest ones, though they have other ranks.
    test.makeConstants();
    int side = test.grown(4);
    int t = test.grown(6);
    List<Integer> terms = new ArrayList<>();
    for (int i = 3; i < 8; i++) {
      int first = test.answer("replace", side, 0, test.answer("term", 8 + i, 0, 0, 0));
      test.ask("equate", i, first);
      terms.add(test.answer("replace", t, 0, i));
      terms.add(test.answer("replace", t, 1, i));
    }
    for (int i = 0; test.calls < 506; i++) {
      test.ask("normalForm", terms.get(i % 10));
      test.ask("countOfSize", terms.get(i % 10), 12);
      test.ask("afterSteps", terms.get(i % 10), 1 + i % 3);
      test.ask("smallest", terms.get(i % 10));
    }
    return test.isWithinRoom(MOST_CELLS);
  }

  private static boolean manySolutions() throws IllegalAccessException {
    RoomTest test = new RoomTest("many solutions");
    test.declareAll();
    for (int i = 0; i < 3; i++) {
      test.type("v" + i);
      test.ask("declareVariable");
    }
    StringBuilder text = new StringBuilder();
    for (int i = 8; i < 12; i++) {
      for (int k = 1; k < 8; k++) {
        text.append("s").append((char) ('a' + i)).append("(s").append((char) ('a' + k)).append(")=sa;");
      }
      test.type(text.toString());
      test.ask("readTheory");
      text.setLength(0);
    }
    test.type("su(si(v0),su(sj(v1),sk(v2)))");
    int pattern = test.answer("read");
    test.type("su(sa,su(sa,sa))");
    int t = test.answer("read");
    while (test.calls < 508) {
      test.ask("match", pattern, t);
      test.ask("solution", test.calls % 343, 21 + test.calls % 3);
    }
    return test.isWithinRoom(MOST_CELLS);
  }

  private static boolean manyTermsDropped() throws IllegalAccessException {
    RoomTest test = new RoomTest("many terms dropped");
    test.declareAll();
    test.makeConstants();
    int t = test.grown(6);
    int side = t;
    while (test.answer("size", side) > 100) {
      side = test.answer("argument", side, 0);
    }
    for (int i = 0; test.calls < 508; i++) {
      if (i % 36 == 0) {
        side = test.answer("term", 8 + i / 36, side, 0, 0);
      }
      int other = test.answer("term", 8 + i % 12, i % 3, 0, 0);
      test.ask("replace", t, i % 3, test.answer("term", 20, side, other, 0));
    }
    return test.isWithinRoom(FEW_CELLS);
  }

  private boolean isWithinRoom(long mostCells) throws IllegalAccessException {
    Map<Object, Boolean> seen = new IdentityHashMap<>();
    ArrayDeque<Object> open = new ArrayDeque<>();
    open.add(prover);
    seen.put(prover, true);
    long cells = 0;
    while (!open.isEmpty()) {
      Object object = open.remove();
      List<Object> held = new ArrayList<>();
      if (object.getClass().isArray()) {
        cells += Array.getLength(object);
        if (object instanceof Object[]) {
          held.addAll(java.util.Arrays.asList((Object[]) object));
        }
      } else {
        for (Field field : object.getClass().getDeclaredFields()) {
          if (!Modifier.isStatic(field.getModifiers())) {
            cells++;
            field.setAccessible(true);
            held.add(field.getType().isPrimitive() ? null : field.get(object));
          }
        }
      }
      for (Object next : held) {
        if (next != null && seen.put(next, true) == null) {
          open.add(next);
        }
      }
    }
    System.out.println(name + ": after " + calls + " calls " + seen.size() + " objects, " + cells
        + " fields and elements, terms with a number: " + prover.termCount());
    return seen.size() <= MOST_OBJECTS && cells <= mostCells;
  }
}
