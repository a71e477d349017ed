import java.util.ArrayList;
import java.util.HashSet;
import java.util.List;
import java.util.Set;

/**
 * "A method that throws an exception changes nothing, except the input buffer, and what errorKind and
 * errorPosition return": of two objects with the same calls only one gets the refused call, and after it
 * both answer a long run of calls, many of which change something, in the same way. "If several
 * exceptions apply, the one that is named first is thrown": the calls of which this is true are marked.
 */
public final class RefusedCallsTest {
  private static final String INDEX = "IndexOutOfBoundsException";
  private static final String ARGUMENT = "IllegalArgumentException";
  private static final String STATE = "IllegalStateException";
  private static final String ARITHMETIC = "ArithmeticException";
  private static final String ELEMENT = "NoSuchElementException";
  private static final List<String> TEXT_CALLS = List.of("declare", "declareVariable", "read", "readTheory");
  private static final String DEEP = "f(".repeat(40) + "a" + ")".repeat(40);

  // What has been called before: nothing, symbols alone, or theories that are not full or full.
  private static final int NEW = 0;
  private static final int SYMBOLS = 1;
  private static final int USED = 2;
  private static final int FULL = 3;

  // The symbols of the theories.
  private static final int F = 3;
  private static final int G = 4;
  private static final int H = 5;
  private static final int U = 6;
  private static final int X = 20;
  private static final int Y = 21;

  private static final Set<String> refusals = new HashSet<>();
  private static int count;

  // The terms of the theories, by what is special about them; the same in each object.
  private static int a;
  private static int b;
  private static int open;
  private static int large;
  private static int deep;
  private static int tooDeepNormal;
  private static int tooDeepSmallest;
  private static int longest;
  private static int pattern;
  private static int manySolutions;
  private static int largePattern;
  private static int likeLargePattern;
  private static int haaa;

  public static void main(String[] args) {
    ofNew();
    ofSymbols();
    inputAndSymbols();
    order();
    terms();
    theory();
    theoryTexts();
    levels();
    rules();
    classes();
    solutions();
    Set<String> missing = new HashSet<>();
    for (String op : Calls.LISTED.keySet()) {
      for (String exception : Calls.LISTED.get(op)) {
        missing.add(op + " " + exception);
      }
    }
    missing.removeAll(refusals);
    if (!missing.isEmpty()) {
      System.out.println("not tested: " + missing);
      System.exit(1);
    }
    System.out.println("refused calls: " + count);
    Script.end("RefusedCallsTest");
  }

  // ---- what is called before

  private static Script prepared(int state, boolean hasLargeSolution, String text) {
    Script s = new Script("refused calls");
    if (state >= SYMBOLS) {
      declareAll(s);
    }
    if (state >= USED) {
      makeTheory(s);
      makeTerms(s);
      s.due("500", "match", pattern, haaa);
      if (hasLargeSolution) {
        s.due("1", "match", open, tooDeepNormal);
      }
      s.due("0", "separate", a, b);
      s.answer("write", manySolutions);
      s.due("throws " + ARGUMENT, "read");
    }
    if (state == FULL) {
      s.symbol("last", 2);
      s.theory("a!=b;".repeat(29), 29);
      for (int i = 3; i <= 8; i++) {
        s.due("" + i, "push");
      }
      s.theory("a=a;".repeat(30 - Integer.parseInt(s.ask("equationCount"))), 2);
    }
    s.text(text);
    return s;
  }

  private static void declareAll(Script s) {
    for (String name : new String[] {"a", "b", "c"}) {
      s.symbol(name, 0, 2);
    }
    s.symbol("f", 1).symbol("g", 2).symbol("h", 3).symbol("u", 1).symbol("v", 1).symbol("w", 1);
    s.symbol("t", 0);
    for (int i = 0; i < 10; i++) {
      s.symbol("d" + i, 0);
    }
    s.variable("x").variable("y").variable("z").due("0", "setDirection", H, 1);
  }

  private static void makeTheory(Script s) {
    s.due("1", "push");
    StringBuilder text = new StringBuilder();
    for (int i = 0; i < 10; i++) {
      text.append(i < 5 ? "u(d" + i + ")=a;" : "").append("v(d").append(i).append(")=a;w(d").append(i)
          .append(")=a;");
    }
    s.theory(text.toString(), 25).due("2", "push");
    s.theory("t=" + "f(".repeat(39) + "a" + ")".repeat(39) + ";", 1)
        .theory("h(a,a,a)=f(f(f(a)));", 1).theory("f(b)=f(b);", 1);
  }

  private static void makeTerms(Script s) {
    a = s.number("a");
    b = s.number("b");
    open = s.number("f(x)");
    large = s.bush(F, G, a, 1000);
    deep = s.chain(F, a, 59);
    tooDeepNormal = s.chain(F, s.number("t"), 22);
    haaa = s.number("h(a,a,a)");
    tooDeepSmallest = s.chain(U, haaa, 57);
    longest = s.bush(F, G, b, 999);
    pattern = s.number("h(u(x),v(y),w(z))");
    manySolutions = s.number("h(v(x),v(y),w(z))");
    largePattern = s.number("g(h(v(x),v(y),w(z)),f(f(f(f(a)))))");
    likeLargePattern = s.number("g(h(a,a,a),f(f(f(f(a)))))");
  }

  // ---- a refused call

  private static void refuse(int state, String exception, String op, int... arguments) {
    refuseWith(state, false, "", exception, op, arguments);
  }

  private static void refuseText(int state, String text, String exception, String op, int... arguments) {
    refuseWith(state, false, text, exception, op, arguments);
  }

  private static void refuseWith(int state, boolean hasLargeSolution, String text, String exception,
      String op, int... arguments) {
    Script one = prepared(state, hasLargeSolution, text);
    Script two = prepared(state, hasLargeSolution, text);
    one.due("throws " + exception, op, arguments);
    if (TEXT_CALLS.contains(op)) {
      two.due("0", "trim", 0);
    }
    List<String> first = answers(one, !op.startsWith("read"));
    List<String> second = answers(two, !op.startsWith("read"));
    for (int i = 0; i < first.size(); i++) {
      if (!first.get(i).equals(second.get(i))) {
        Script.fail("after the refused " + op + java.util.Arrays.toString(arguments) + ": " + first.get(i)
            + ", without it: " + second.get(i));
        break;
      }
    }
    refusals.add(op + " throws " + exception);
    count++;
  }

  private static void call(List<String> answers, Script s, String op, int... arguments) {
    answers.add(op + java.util.Arrays.toString(arguments) + " " + s.ask(op, arguments));
  }

  /** The last calls of both objects. */
  private static List<String> answers(Script s, boolean hasSameErrors) {
    List<String> all = new ArrayList<>();
    if (hasSameErrors) {
      call(all, s, "errorKind");
      call(all, s, "errorPosition");
    }
    for (String op : new String[] {"digest", "symbolCount", "termCount", "equationCount", "separationCount",
        "ruleCount", "isConsistent", "conflict"}) {
      call(all, s, op);
    }
    askInputAndOutput(all, s);
    askSolutions(all, s);
    askTerms(all, s);
    askTheory(all, s);
    askSymbols(all, s);
    return all;
  }

  private static void askInputAndOutput(List<String> all, Script s) {
    for (int i = 0; i < 40; i++) {
      call(all, s, "outputByte", i);
    }
    call(all, s, "outputByte", 1999);
    call(all, s, "trim", 400);
    call(all, s, "trim", 20);
    call(all, s, "trim", 4);
    call(all, s, "read");
    call(all, s, "errorKind");
    call(all, s, "errorPosition");
  }

  private static void askSolutions(List<String> all, Script s) {
    for (int k : new int[] {-1, 0, 1, 2, 250, 499, 500}) {
      for (int symbol = 19; symbol <= 24; symbol++) {
        call(all, s, "solution", k, symbol);
      }
    }
  }

  /** Each time every third term, beginning with another one. */
  private static void askTerms(List<String> all, Script s) {
    int terms = Integer.parseInt(s.ask("termCount"));
    for (int t = count % 3; t <= terms; t += 3) {
      for (String op : new String[] {"symbolOf", "size", "depth", "isFinite", "stepCount", "normalForm", "smallest"}) {
        call(all, s, op, t);
      }
      call(all, s, "compare", t, (7 * t + 3) % (terms + 1));
      call(all, s, "areEqual", t, (5 * t + 1) % (terms + 1));
      call(all, s, "dependsOn", t, t / 2, t % 31);
      call(all, s, "argument", t, t / 3 % 3);
      call(all, s, "countOfSize", t, 1 + t % 12);
    }
    call(all, s, "term", 0, 0, 0, 0);
    call(all, s, "match", open, deep);
    call(all, s, "solution", 0, X);
  }

  private static void askTheory(List<String> all, Script s) {
    for (int i = 0; i <= 30; i++) {
      call(all, s, "ruleLeft", i);
      call(all, s, "ruleRight", i);
    }
    for (int i = 0; i < 10; i++) {
      call(all, s, "separate", i, i + 1);
      call(all, s, "equate", i, i + 1);
      call(all, s, "conflict");
      call(all, s, "digest");
      call(all, s, "pop");
      call(all, s, "digest");
    }
    for (int i = 0; i < 9; i++) {
      call(all, s, "push");
    }
  }

  private static void askSymbols(List<String> all, Script s) {
    for (int i = 0; i < 25; i++) {
      call(all, s, "rankOf", i);
      call(all, s, "setDirection", i, 1);
      call(all, s, "promote", i, 0);
    }
    call(all, s, "orderByWeight", 1);
    s.text("new1");
    call(all, s, "declareVariable");
    s.text("new2");
    call(all, s, "declare", 2, 2);
    s.text("new2(a,b)");
    call(all, s, "read");
    call(all, s, "digest");
  }

  // ---- the refused calls

  private static void ofNew() {
    String[] ofTerms = {"symbolOf", "size", "depth", "write", "normalForm", "stepCount", "isFinite", "smallest"};
    for (String op : ofTerms) {
      refuse(NEW, INDEX, op, 0);
    }
    for (String op : new String[] {"argument", "compare", "occurrences", "equate", "separate", "areEqual",
        "afterSteps", "match"}) {
      refuse(NEW, INDEX, op, 0, 0);
    }
    refuse(NEW, INDEX, "countOfSize", 0, 1);
    refuse(NEW, INDEX, "replace", 0, 0, 0);
    refuse(NEW, INDEX, "dependsOn", 0, 0, 0);
    refuse(NEW, INDEX, "solution", 0, 0);
    refuse(NEW, INDEX, "outputByte", 0);
    refuse(NEW, INDEX, "ruleLeft", 0);
    refuse(NEW, INDEX, "ruleRight", 0);
    refuse(NEW, INDEX, "rankOf", 0);
    refuse(NEW, INDEX, "promote", 0, 0);
    refuse(NEW, INDEX, "setDirection", 0, 0);
    refuse(NEW, INDEX, "term", 0, 0, 0, 0);
    refuse(NEW, ELEMENT, "conflict");
    refuse(NEW, STATE, "pop");
    refuse(NEW, ARGUMENT, "trim", 1);
    refuse(NEW, ARGUMENT, "trim", -1);
    refuse(NEW, ARGUMENT, "declare", 0, 1);
    refuse(NEW, ARGUMENT, "declareVariable");
    refuse(NEW, ARGUMENT, "read");
    refuseText(NEW, "a", ARGUMENT, "readTheory");
  }

  private static void ofSymbols() {
    refuse(SYMBOLS, INDEX, "promote", 23, 0);
    refuse(SYMBOLS, INDEX, "promote", 0, 23);
    refuse(SYMBOLS, INDEX, "setDirection", 23, 0);
    refuse(SYMBOLS, INDEX, "term", F, 0, 0, 0);
    refuseText(SYMBOLS, "a b", ARGUMENT, "read");
    refuseText(SYMBOLS, "a=b;a=x;", ARGUMENT, "readTheory");
    refuseText(SYMBOLS, "a=b;".repeat(31), STATE, "readTheory");
    refuseText(SYMBOLS, "a!=b;b=" + DEEP + ";", ARITHMETIC, "readTheory");
    refuseText(SYMBOLS, "n", ARGUMENT, "declare", 4, 1);
    refuseText(SYMBOLS, "a", STATE, "declareVariable");
  }

  private static void inputAndSymbols() {
    refuseText(FULL, "b" + " ".repeat(399), STATE, "feed", 0, 0, 0, 0, 0);
    refuseText(USED, "b" + " ".repeat(380), STATE, "feed", 0, 0, 0, 0, 0);
    refuseText(USED, "b  ", ARGUMENT, "trim", 4);
    refuseText(FULL, "b  ", ARGUMENT, "trim", -1);
    for (int state : new int[] {USED, FULL}) {
      refuseText(state, "a", STATE, "declare", 0, 1);
      refuseText(state, "a", STATE, "declareVariable");
      refuseText(state, "n", STATE, "declareVariable");
      refuseText(state, "n.", ARGUMENT, "declareVariable");
      refuseText(state, "n.", ARGUMENT, "declare", 0, 1);
      refuseText(state, "n", ARGUMENT, "declare", -1, 1);
      refuseText(state, "n", ARGUMENT, "declare", 0, 10);
      // A name that is taken, and an arity or a weight that is none.
      refuseText(state, "a", ARGUMENT, "declare", 4, 1);
      refuseText(state, "a", ARGUMENT, "declare", 0, 0);
    }
    refuseText(FULL, "n", STATE, "declare", 0, 1);
    refuseText(FULL, "a", STATE, "declare", 0, 1);
  }

  private static void order() {
    for (int value = 0; value <= 1; value++) {
      refuse(USED, STATE, "orderByWeight", value);
      refuse(USED, STATE, "setDirection", G, value);
    }
    refuse(USED, STATE, "promote", 0, 22);
    refuse(USED, STATE, "promote", 0, 0);
    // No such symbol or rank, and the order is fixed.
    refuse(USED, INDEX, "promote", 23, 0);
    refuse(FULL, INDEX, "promote", 0, 24);
    refuse(USED, INDEX, "promote", -1, 0);
    refuse(USED, INDEX, "setDirection", 23, 1);
    refuse(FULL, INDEX, "setDirection", -1, 1);
    refuse(FULL, INDEX, "rankOf", 24);
    refuse(FULL, INDEX, "rankOf", -1);
  }

  private static void terms() {
    refuse(USED, ARITHMETIC, "term", F, large, 0, 0);
    refuse(USED, ARITHMETIC, "term", G, a, deep, 0);
    refuse(USED, ARITHMETIC, "term", H, large, large, large);
    refuse(USED, INDEX, "term", F, 10000, 0, 0);
    // An argument that is no term, and others that would make the term too large.
    refuse(USED, INDEX, "term", H, large, large, -1);
    refuse(USED, INDEX, "term", H, 10000, large, large);
    refuse(USED, INDEX, "term", 23, a, a, a);
    for (String text : new String[] {"a b", "f(q", "g(a)", "f(" + DEEP, "f(", ""}) {
      refuseText(USED, text, ARGUMENT, "read");
    }
    refuse(USED, INDEX, "symbolOf", -1);
    refuse(USED, INDEX, "size", 10000);
    refuse(USED, INDEX, "depth", -1);
    refuse(USED, INDEX, "argument", haaa, 3);
    refuse(USED, INDEX, "argument", haaa, -1);
    refuse(USED, INDEX, "compare", haaa, 10000);
    refuse(USED, INDEX, "occurrences", -1, haaa);
    refuse(USED, INDEX, "replace", haaa, a, 10000);
    refuse(USED, ARITHMETIC, "replace", haaa, a, large);
    refuse(USED, ARITHMETIC, "replace", large, a, large);
    refuse(USED, ARITHMETIC, "replace", deep, a, deep);
    refuse(USED, INDEX, "replace", large, -1, large);
    refuse(USED, ARITHMETIC, "write", longest);
    refuse(USED, INDEX, "write", 10000);
    refuse(USED, INDEX, "outputByte", 100);
    refuse(USED, INDEX, "outputByte", -1);
  }

  private static void theory() {
    for (int state : new int[] {USED, FULL}) {
      // A term that is not there, another one that is not ground, and too many.
      refuse(state, INDEX, "equate", a, 10000);
      refuse(state, INDEX, "equate", 10000, open);
      refuse(state, INDEX, "equate", open, -1);
      refuse(state, ARGUMENT, "equate", open, a);
      refuse(state, ARGUMENT, "equate", large, open);
      refuse(state, INDEX, "separate", open, 10000);
      refuse(state, INDEX, "separate", -1, a);
      refuse(state, ARGUMENT, "separate", a, open);
      refuse(state, ARGUMENT, "separate", open, open);
    }
    refuse(FULL, STATE, "equate", a, b);
    refuse(FULL, STATE, "equate", a, a);
    // Too many, and a rule that would be too large.
    refuse(FULL, STATE, "equate", a, large);
    refuse(FULL, STATE, "equate", b, deep);
    refuse(FULL, STATE, "separate", a, b);
    refuse(USED, ARITHMETIC, "equate", b, large);
    refuse(USED, ARITHMETIC, "equate", deep, b);
    refuse(USED, ELEMENT, "conflict");
    refuse(FULL, ELEMENT, "conflict");
  }

  private static void theoryTexts() {
    refuseText(USED, "a=b;c=b", ARGUMENT, "readTheory");
    refuseText(FULL, "a", ARGUMENT, "readTheory");
    // An error, and before it too many or too large.
    refuseText(FULL, "a=b;x=a;", ARGUMENT, "readTheory");
    refuseText(USED, "b=" + DEEP + ";q=a;", ARGUMENT, "readTheory");
    refuseText(USED, "a=b;".repeat(40) + "c", ARGUMENT, "readTheory");
    refuseText(USED, "a=b;c=b;c=a;", STATE, "readTheory");
    refuseText(USED, "b=c;" + "a!=b;".repeat(30), STATE, "readTheory");
    refuseText(FULL, "a=a;", STATE, "readTheory");
    refuseText(FULL, "a!=b;", STATE, "readTheory");
    // The first one that would throw says what is thrown.
    refuseText(USED, "b=c;c=a;a=a;b=" + DEEP + ";", STATE, "readTheory");
    refuseText(USED, "b=c;b=" + DEEP + ";a=a;a=a;", ARITHMETIC, "readTheory");
    refuseText(USED, "a!=b;b=" + DEEP + ";", ARITHMETIC, "readTheory");
    refuseText(FULL, "b=" + DEEP + ";", STATE, "readTheory");
  }

  private static void levels() {
    refuse(FULL, STATE, "push");
    refuse(SYMBOLS, STATE, "pop");
  }

  private static void rules() {
    int rules = Integer.parseInt(prepared(USED, false, "").ask("ruleCount"));
    for (String op : new String[] {"ruleLeft", "ruleRight"}) {
      refuse(USED, INDEX, op, rules);
      refuse(USED, INDEX, op, -1);
    }
    refuse(USED, INDEX, "normalForm", -1);
    refuse(USED, ARITHMETIC, "normalForm", tooDeepNormal);
    refuse(USED, INDEX, "areEqual", a, 10000);
    refuse(USED, INDEX, "dependsOn", a, b, 28);
    refuse(FULL, INDEX, "dependsOn", a, b, 30);
    refuse(FULL, INDEX, "dependsOn", a, -1, 0);
    refuse(USED, INDEX, "stepCount", 10000);
    refuse(USED, ARITHMETIC, "afterSteps", tooDeepNormal, 1);
    refuse(USED, INDEX, "afterSteps", tooDeepNormal, 2);
    refuse(USED, INDEX, "afterSteps", tooDeepNormal, -1);
    refuse(USED, INDEX, "afterSteps", 10000, 0);
  }

  private static void classes() {
    refuse(USED, ARGUMENT, "countOfSize", a, 0);
    refuse(USED, ARGUMENT, "countOfSize", a, 13);
    // No such term, and no such size.
    refuse(USED, INDEX, "countOfSize", 10000, 13);
    refuse(USED, INDEX, "countOfSize", -1, 1);
    refuse(USED, INDEX, "isFinite", 10000);
    refuse(USED, ARITHMETIC, "smallest", tooDeepSmallest);
    refuse(USED, INDEX, "smallest", -1);
  }

  private static void solutions() {
    refuse(USED, INDEX, "match", pattern, 10000);
    refuse(USED, INDEX, "match", -1, haaa);
    // A term that is not there, and one that is not ground, or a pattern that is too large.
    refuse(USED, INDEX, "match", 10000, open);
    refuse(USED, INDEX, "match", largePattern, 10000);
    refuse(USED, ARGUMENT, "match", pattern, open);
    refuse(USED, ARGUMENT, "match", largePattern, a);
    refuse(USED, ARITHMETIC, "match", manySolutions, haaa);
    // More than 500 solutions, but the term is not ground, or the pattern is too large.
    refuse(USED, ARGUMENT, "match", manySolutions, manySolutions);
    refuse(USED, ARGUMENT, "match", largePattern, likeLargePattern);
    refuse(USED, INDEX, "solution", 500, X);
    refuse(USED, INDEX, "solution", -1, X);
    refuse(USED, INDEX, "solution", 0, 23);
    refuse(USED, ELEMENT, "solution", 0, 0);
    // No such solution or symbol, and no such variable.
    refuse(USED, INDEX, "solution", 500, 0);
    refuse(FULL, INDEX, "solution", 0, 24);
    refuseWith(USED, true, "", ELEMENT, "solution", 0, Y);
    refuseWith(USED, true, "", INDEX, "solution", 1, X);
    refuseWith(USED, true, "", ARITHMETIC, "solution", 0, X);
  }
}
