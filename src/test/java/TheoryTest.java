/** Promises 25 to 33: equations, separations, conflicts and levels. */
public final class TheoryTest {
  private static final String INDEX = "IndexOutOfBoundsException";
  private static final String ARGUMENT = "IllegalArgumentException";
  private static final String STATE = "IllegalStateException";
  private static final String ARITHMETIC = "ArithmeticException";
  private static final String ELEMENT = "NoSuchElementException";

  public static void main(String[] args) {
    equate();
    equateTooMany();
    equateTooLarge();
    separate();
    readTheory();
    readTheoryRefused();
    counts();
    conflicts();
    push();
    pop();
    Script.end("TheoryTest");
  }

  private static Script signature(String name) {
    return new Script(name).symbol("a", 0).symbol("b", 0).symbol("c", 0).symbol("f", 1)
        .symbol("g", 2).variable("x");
  }

  private static void equate() {
    signature("promise 25").reads("f(a)", 0).reads("b", 1).reads("g(x,a)", 2).reads("x", 3)
        .due("0", "equate", 0, 1).due("1", "ruleCount").due("1", "areEqual", 0, 1)
        .due("1", "equate", 0, 0).due("2", "equate", 0, 1).due("1", "ruleCount")
        .refused(INDEX, "equate", 4, 0).refused(INDEX, "equate", 0, 4)
        .refused(INDEX, "equate", -1, 0).refused(INDEX, "equate", 0, -1)
        .refused(INDEX, "equate", 2, 4)
        .refused(ARGUMENT, "equate", 2, 0).refused(ARGUMENT, "equate", 0, 2)
        .refused(ARGUMENT, "equate", 3, 3)
        .due("3", "equationCount").due("0", "separationCount");
  }

  private static void equateTooMany() {
    Script s = signature("promise 25, too many").reads("a", 0).reads("b", 1).reads("x", 2);
    for (int i = 0; i < 30; i++) {
      s.due("" + i, "equate", 0, 0);
    }
    s.refused(STATE, "equate", 0, 1).refused(STATE, "equate", 0, 0)
        .refused(INDEX, "equate", 0, 3).refused(ARGUMENT, "equate", 0, 2)
        .due("30", "equationCount").due("0", "areEqual", 0, 1);
  }

  private static int chain(Script s, int depth, String constant) {
    return s.chain(3, s.number(constant), depth - 1);
  }

  private static int bush(Script s, int size, int constant) {
    return s.bush(3, 4, constant, size);
  }

  private static void equateTooLarge() {
    Script s = signature("promise 25, too large");
    int a = s.number("a");
    int b = s.number("b");
    int deep40 = chain(s, 40, "b");
    int deep41 = chain(s, 41, "b");
    s.refused(ARITHMETIC, "equate", a, deep41).refused(ARITHMETIC, "equate", deep41, a);
    s.due("1", "push").due("0", "equate", deep40, a).due("0", "pop");
    int t300 = bush(s, 300, b);
    int t301 = bush(s, 301, b);
    s.refused(ARITHMETIC, "equate", t301, a).due("1", "push").due("0", "equate", a, t300)
        .due("1", "ruleCount");
    // With t300 normal no longer, the rule is smaller: f(f(..)) of a.
    s.due("0", "pop");
    // No rule is too large where both sides are equal already, or get smaller by other rules.
    s.due("0", "equate", deep41, deep41).due("0", "ruleCount");
    int fb = chain(s, 2, "b");
    s.due("1", "equate", fb, b).due("2", "equate", deep41, a).due("2", "ruleCount");
    // An equation can make the rule of an earlier one too large.
    Script t = new Script("promise 25, an earlier rule gets too large").symbol("a", 0)
        .symbol("f", 1).symbol("b", 0).symbol("c", 0).symbol("p", 1);
    t.due("1", "promote", 1, 0);
    String chain30 = "a";
    for (int i = 0; i < 30; i++) {
      chain30 = "f(" + chain30 + ")";
    }
    String chain20 = "b";
    for (int i = 0; i < 20; i++) {
      chain20 = "f(" + chain20 + ")";
    }
    t.theory("p(" + chain20 + ") = a;", 1);
    t.text("b = " + chain30 + ";").refusedText(ARITHMETIC, "readTheory").due("1", "ruleCount");
    t.text("c = " + chain30 + "; c = b;").refusedText(ARITHMETIC, "readTheory")
        .due("1", "equationCount").due("1", "ruleCount").theory("c = " + chain30 + ";", 1)
        .due("2", "ruleCount");
  }

  private static void separate() {
    Script s = signature("promise 26").reads("a", 0).reads("f(x)", 1).reads("b", 2)
        .due("0", "separate", 0, 2).due("1", "separate", 0, 0).due("2", "separate", 2, 0)
        .refused(INDEX, "separate", 3, 0).refused(INDEX, "separate", 0, 3)
        .refused(INDEX, "separate", -1, 0).refused(INDEX, "separate", 1, -1)
        .refused(ARGUMENT, "separate", 1, 0).refused(ARGUMENT, "separate", 0, 1)
        .due("3", "separationCount").due("0", "equationCount");
    for (int i = 3; i < 30; i++) {
      s.due("" + i, "separate", 0, 2);
    }
    s.refused(STATE, "separate", 0, 2).refused(ARGUMENT, "separate", 0, 1)
        .refused(INDEX, "separate", 0, 3).due("0", "equate", 0, 2);
  }

  private static void readTheory() {
    Script s = signature("promise 27")
        .theory("a = b; f(a) != c; f(b) = c; a != c;\n", 4)
        .due("2", "equationCount").due("2", "separationCount").due("0", "termCount")
        .due("0", "conflict").due("2", "ruleCount")
        .theory("", 0).theory(" ", 0).due("2", "equationCount");
    // The numbers go on in the order of the text.
    s.reads("f(a)", 0).reads("c", 1).reads("a", 2)
        .due("1", "dependsOn", 0, 1, 1).due("1", "dependsOn", 0, 1, 0)
        .due("2", "equate", 2, 1).due("0", "dependsOn", 0, 1, 2).due("2", "separate", 0, 2);
  }

  private static String times(int n, String text) {
    StringBuilder all = new StringBuilder();
    for (int i = 0; i < n; i++) {
      all.append(text);
    }
    return all.toString();
  }

  private static void readTheoryRefused() {
    Script s = signature("promise 27, refused").theory("a = b; c != f(a);", 2);
    s.text("b = c; a = a").refusedText(ARGUMENT, "readTheory");
    s.text(times(30, "b=c;")).refusedText(STATE, "readTheory").due("1", "ruleCount");
    s.text(times(29, "a=a;") + "b=c;").refusedText(STATE, "readTheory");
    s.text(times(30, "a!=c;")).refusedText(STATE, "readTheory");
    s.theory(times(29, "a!=c;") + times(29, "f(c)=c;"), 58)
        .due("30", "equationCount").due("30", "separationCount").due("2", "ruleCount");
    s.text("a=a;").refusedText(STATE, "readTheory");
    s.text("a!=a;").refusedText(STATE, "readTheory");
    s.theory("", 0);
    // The exception of the first such call: a rule too large before too many, and after it.
    String deep = times(41, "f(") + "c" + times(41, ")");
    signature("promise 27, the first exception").theory(times(29, "a=a;"), 29)
        .text("b = " + deep + "; a = a; a = a;").refusedText(ARITHMETIC, "readTheory")
        .text("a = a; a = a; b = " + deep + ";").refusedText(STATE, "readTheory")
        .text("a != a; b = " + deep + ";").refusedText(ARITHMETIC, "readTheory")
        .due("29", "equationCount").due("0", "separationCount");
  }

  private static void counts() {
    signature("promises 28 and 29").due("0", "equationCount").due("0", "separationCount")
        .theory("a = b; a != c; f(a) = c;", 3).due("2", "equationCount").due("1", "separationCount")
        .due("1", "push").theory("a = a; a != b; a != b;", 3)
        .due("3", "equationCount").due("3", "separationCount")
        .due("0", "pop").due("2", "equationCount").due("1", "separationCount");
  }

  private static void conflicts() {
    signature("promises 30 and 31").due("1", "isConsistent").refused(ELEMENT, "conflict")
        .theory("f(a) != f(b); a != c; g(a,b) != g(c,b); b != c;", 4)
        .due("1", "isConsistent").refused(ELEMENT, "conflict")
        .due("1", "push").theory("b = c;", 1).due("0", "isConsistent").due("3", "conflict")
        .due("2", "push").theory("f(c) = f(a);", 1).due("0", "conflict")
        .due("1", "pop").due("3", "conflict").due("0", "pop").due("1", "isConsistent")
        .theory("a = c;", 1).due("1", "conflict").due("0", "isConsistent")
        .theory("b = c;", 1).due("0", "conflict");
    signature("a term is not separate from itself").theory("a != a;", 1).due("0", "conflict");
  }

  private static void push() {
    Script s = signature("promise 32");
    for (int i = 1; i <= 8; i++) {
      s.due("" + i, "push");
    }
    s.refused(STATE, "push").due("7", "pop").due("8", "push").refused(STATE, "push");
    for (int i = 7; i >= 0; i--) {
      s.due("" + i, "pop");
    }
    s.refused(STATE, "pop").due("1", "push");
  }

  private static void pop() {
    Script s = signature("promise 33").refused(STATE, "pop").theory("f(a) = a; a != b;", 2)
        .due("1", "push").due("2", "push").theory("b = c;", 1)
        .reads("b", 0).reads("c", 1).reads("g(x,x)", 2).reads("g(c,b)", 3)
        .due("1", "areEqual", 0, 1).due("2", "ruleCount").due("1", "match", 2, 3);
    s.error("f", "read", 5, 0);
    s.due("1", "write", 1).text("ok").due("1", "pop").due("0", "areEqual", 0, 1)
        .due("1", "ruleCount").due("1", "equationCount").due("1", "separationCount");
    // Symbols, term numbers, solutions, input and output are not affected.
    s.due("6", "declare", 0, 1).outputs("c").due("5", "errorKind").due("4", "termCount")
        .due("0", "solution", 0, 5).due("0", "pop").due("1", "equationCount")
        .refused(STATE, "pop").due("1", "equationCount");
    // A level remembers numbers alone: what was added before it stays.
    s.due("1", "push").due("0", "pop").due("1", "push").theory("b = a; c != c;", 2)
        .due("0", "conflict").due("0", "pop").due("1", "isConsistent");
  }
}
