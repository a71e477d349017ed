/**
 * The sentences of the description (theory, rules, levels) that name a boundary, in the order of the
 * document, each one with what is allowed last and what is not allowed first. A script is named after
 * its sentence.
 */
public final class DescriptionTheoryTest {
  private static final String INDEX = "IndexOutOfBoundsException";
  private static final String STATE = "IllegalStateException";
  private static final String ARITHMETIC = "ArithmeticException";
  private static final String ELEMENT = "NoSuchElementException";

  public static void main(String[] args) {
    numbersOfStatements();
    lawsOfEquality();
    variables();
    mostEquations();
    mostSeparations();
    mostOfBoth();
    leastTerms();
    oneRuleForEach();
    orderOfRules();
    mostRules();
    largestSides();
    deepestSides();
    largestSidesByReadTheory();
    equationsLargerThanTheirRules();
    otherRulesTooLarge();
    steps();
    mostLevels();
    latestPush();
    notAffected();
    Script.end("DescriptionTheoryTest");
  }

  private static Script signature(String name) {
    return new Script(name).symbol("a", 0).symbol("b", 0).symbol("c", 0).symbol("f", 1).symbol("g", 2)
        .symbol("h", 3).variable("x").variable("y");
  }

  // ---- theory

  private static void numbersOfStatements() {
    signature("equations and separations are numbered separately, each from 0")
        .reads("a", 0).reads("b", 1)
        .due("0", "equate", 0, 1).due("0", "separate", 0, 1).due("1", "separate", 0, 1)
        .due("1", "equate", 0, 0).theory("a = a; a != a; a = b;", 3)
        .due("4", "equate", 0, 0).due("3", "separate", 0, 0)
        .due("5", "equationCount").due("4", "separationCount");
  }

  private static void equal(Script s, String first, String second, int due) {
    int one = s.number(first);
    int two = s.number(second);
    s.due("" + due, "areEqual", one, two).due("" + due, "areEqual", two, one);
  }

  private static void lawsOfEquality() {
    Script s = signature("two terms are equal if this follows by the laws of equality");
    equal(s, "a", "b", 0);
    equal(s, "f(a)", "f(a)", 1);
    s.theory("a = b;", 1);
    equal(s, "a", "b", 1);
    equal(s, "a", "c", 0);
    equal(s, "f(a)", "f(b)", 1);
    equal(s, "h(a,c,a)", "h(b,c,b)", 1);
    equal(s, "h(a,c,a)", "h(b,b,b)", 0);
    equal(s, "f(a)", "f(c)", 0);
    s.theory("c = b;", 1);
    equal(s, "a", "c", 1);
    equal(s, "h(a,f(b),c)", "h(c,f(c),b)", 1);
    equal(s, "f(a)", "f(f(a))", 0);
    // The arguments of equal terms need not be equal.
    Script t = signature("equal terms with arguments that are not").theory("f(a) = f(b); g(a,b) = g(b,a);", 2);
    equal(t, "a", "b", 0);
    equal(t, "f(f(a))", "f(f(b))", 1);
    equal(t, "g(a,b)", "g(b,a)", 1);
    equal(t, "g(a,a)", "g(b,b)", 0);
  }

  private static void variables() {
    Script s = signature("variables are treated like symbols about which no equation says anything")
        .theory("a = b; f(a) = a; f(b) = c;", 3);
    equal(s, "x", "x", 1);
    equal(s, "x", "y", 0);
    equal(s, "x", "a", 0);
    equal(s, "f(x)", "x", 0);
    equal(s, "f(x)", "f(y)", 0);
    equal(s, "g(x,f(a))", "g(x,c)", 1);
    s.due("1", "isFinite", s.number("x")).due("1", "countOfSize", s.number("x"), 1)
        .due("0", "stepCount", s.number("f(x)")).due("2", "stepCount", s.number("g(x,f(b))"));
  }

  private static void mostEquations() {
    Script s = signature("at most 30 equations").reads("a", 0).reads("b", 1);
    for (int i = 0; i < 29; i++) {
      s.due("" + i, "equate", 0, 0);
    }
    s.due("1", "push").due("29", "equate", 0, 1).due("30", "equationCount").due("1", "areEqual", 0, 1)
        .due("1", "dependsOn", 0, 1, 29).refused(INDEX, "dependsOn", 0, 1, 30)
        .refused(STATE, "equate", 0, 0).refused(STATE, "equate", 0, 1)
        .text("a=a;").refusedText(STATE, "readTheory").theory("a!=a;", 1).due("1", "separate", 0, 1)
        .due("0", "pop").due("29", "equationCount").refused(INDEX, "dependsOn", 0, 1, 29)
        .theory("a=b;", 1).refused(STATE, "equate", 0, 0);
  }

  private static void mostSeparations() {
    Script s = signature("at most 30 separations").reads("a", 0).reads("b", 1);
    for (int i = 0; i < 29; i++) {
      s.due("" + i, "separate", 0, 1);
    }
    s.due("1", "push").due("29", "separate", 1, 1).due("30", "separationCount").due("29", "conflict")
        .due("0", "isConsistent").refused(STATE, "separate", 0, 0).refused(STATE, "separate", 0, 1)
        .text("a!=a;").refusedText(STATE, "readTheory").theory("a=a;", 1).due("1", "equate", 1, 1)
        .due("0", "pop").due("29", "separationCount").due("1", "isConsistent")
        .refused(ELEMENT, "conflict").theory("b!=b;", 1).due("29", "conflict")
        .refused(STATE, "separate", 0, 0);
  }

  private static void mostOfBoth() {
    signature("at most 30 equations and at most 30 separations, by one text")
        .text("a=a;".repeat(31)).refusedText(STATE, "readTheory")
        .text("a!=b;".repeat(31)).refusedText(STATE, "readTheory")
        .theory("a=a;".repeat(30) + "a!=b;".repeat(30), 60)
        .due("30", "equationCount").due("30", "separationCount")
        .text("a=a;".repeat(100)).refusedText(STATE, "readTheory")
        .text("b=b;").refusedText(STATE, "readTheory").text("a!=b;").refusedText(STATE, "readTheory")
        .theory("", 0);
  }

  // ---- rules

  private static void leastTerms() {
    Script s = signature("the normal form of a term is the least term of its class")
        .theory("c = f(a); f(f(a)) = b;", 2);
    for (String term : new String[] {"c", "f(a)"}) {
      s.writes("c", s.answer("normalForm", s.number(term)));
    }
    for (String term : new String[] {"b", "f(c)", "f(f(a))"}) {
      s.writes("b", s.answer("normalForm", s.number(term)));
    }
    int normal = s.number("g(b,c)");
    s.due("" + normal, "normalForm", normal).due("0", "stepCount", normal);
  }

  private static void oneRuleForEach() {
    Script s = signature("one rule for each term that is not normal although its arguments are normal");
    s.due("0", "ruleCount").theory("a = a; f(a) = f(a);", 2).due("0", "ruleCount")
        .theory("b = a;", 1).due("1", "ruleCount")
        // g(b,b) is no left side, as its arguments are not normal: g(a,a) is.
        .theory("g(b,b) = c;", 1).due("2", "ruleCount").writes("g(a,a)", s.answer("ruleLeft", 1))
        .theory("g(a,b) = c; g(b,a) = c;", 2).due("2", "ruleCount")
        .theory("g(a,a) = a;", 1).due("3", "ruleCount").writes("c", s.answer("ruleLeft", 1))
        .writes("a", s.answer("ruleRight", 1)).refused(INDEX, "ruleLeft", 3);
  }

  private static void orderOfRules() {
    Script s = signature("rules are numbered from 0, in ascending order of their left sides")
        .theory("h(a,a,a) = a; g(b,a) = a; g(a,b) = a; f(f(b)) = a; f(a) = b; c = a;", 6)
        .due("6", "ruleCount");
    String[] lefts = {"c", "f(a)", "f(f(b))", "g(a,b)", "g(b,a)", "h(a,a,a)"};
    for (int i = 0; i < 6; i++) {
      s.writes(lefts[i], s.answer("ruleLeft", i)).writes(i == 1 ? "b" : "a", s.answer("ruleRight", i));
    }
    s.refused(INDEX, "ruleLeft", 6).refused(INDEX, "ruleRight", 6).refused(INDEX, "ruleLeft", -1)
        .refused(INDEX, "ruleRight", -1);
    // From the right, g(b,a) comes before g(a,b).
    Script r = signature("rules in ascending order, from the right").due("0", "setDirection", 4, 1)
        .theory("g(b,a) = a; g(a,b) = a;", 2);
    r.writes("g(b,a)", r.answer("ruleLeft", 0)).writes("g(a,b)", r.answer("ruleLeft", 1));
  }

  private static void mostRules() {
    Script s = signature("as many rules as equations can make");
    StringBuilder text = new StringBuilder();
    for (int i = 0; i < 30; i++) {
      text.append("f(").append("g(a,".repeat(i % 6)).append("h(a,b,").append("f(".repeat(i / 6)).append("c")
          .append(")".repeat(i / 6)).append(")".repeat(i % 6)).append("))=c;");
      if (i % 6 == 5) {
        s.theory(text.toString(), 6);
        text.setLength(0);
      }
    }
    s.due("30", "ruleCount").refused(INDEX, "ruleLeft", 30).refused(INDEX, "ruleRight", 30);
    int c = s.number("c");
    for (int i = 0; i < 30; i++) {
      int left = s.answer("ruleLeft", i);
      s.due("" + c, "ruleRight", i).due("1", "stepCount", left).due("1", "areEqual", left, c)
          .due("" + c, "normalForm", left).due("" + c, "afterSteps", left, 1);
    }
    s.refused(STATE, "equate", c, c);
  }

  /** A new object in which b is the greatest symbol. */
  private static Script withGreatestConstant(String name) {
    return signature(name).due("1", "promote", 1, 7);
  }

  private static void largestSides() {
    String name = "a rule is too large if one of its sides has a size above 300";
    Script s = withGreatestConstant(name);
    int b = s.number("b");
    int a = s.number("a");
    int t300 = s.bush(3, 4, a, 300);
    int t301 = s.bush(3, 4, a, 301);
    // The right side.
    s.refused(ARITHMETIC, "equate", b, t301).refused(ARITHMETIC, "equate", t301, b).due("0", "ruleCount")
        .due("1", "push").due("0", "equate", b, t300).due("" + t300, "ruleRight", 0)
        .due("" + b, "ruleLeft", 0).due("0", "pop");
    // The left side.
    s.refused(ARITHMETIC, "equate", a, t301).refused(ARITHMETIC, "equate", t301, a)
        .due("1", "push").due("0", "equate", a, t300).due("1", "ruleCount").due("" + t300, "ruleLeft", 0)
        .due("" + a, "ruleRight", 0).due("0", "pop");
    // Both sides.
    int other = s.bush(3, 4, s.number("c"), 300);
    int larger = s.bush(3, 4, s.number("c"), 301);
    s.refused(ARITHMETIC, "equate", larger, t300).refused(ARITHMETIC, "equate", other, t301)
        .refused(ARITHMETIC, "equate", larger, t301).due("0", "equationCount")
        .due("0", "equate", other, t300).due("" + other, "ruleLeft", 0).due("" + t300, "ruleRight", 0);
  }

  private static void deepestSides() {
    String name = "a rule is too large if one of its sides has a depth above 40";
    Script s = withGreatestConstant(name);
    int b = s.number("b");
    int a = s.number("a");
    int t40 = s.chain(3, a, 39);
    int t41 = s.chain(3, a, 40);
    s.due("40", "depth", t40).due("41", "depth", t41);
    s.refused(ARITHMETIC, "equate", b, t41).refused(ARITHMETIC, "equate", t41, b).due("0", "ruleCount")
        .due("1", "push").due("0", "equate", b, t40).due("" + t40, "ruleRight", 0)
        .due("" + b, "ruleLeft", 0).due("0", "pop");
    s.refused(ARITHMETIC, "equate", a, t41).refused(ARITHMETIC, "equate", t41, a)
        .due("1", "push").due("0", "equate", a, t40).due("" + t40, "ruleLeft", 0)
        .due("" + a, "ruleRight", 0).due("0", "pop");
    int other = s.chain(3, s.number("c"), 39);
    int deeper = s.chain(3, other, 1);
    s.refused(ARITHMETIC, "equate", deeper, t40).refused(ARITHMETIC, "equate", other, t41)
        .refused(ARITHMETIC, "equate", deeper, t41).due("0", "equationCount")
        .due("0", "equate", other, t40).due("" + other, "ruleLeft", 0).due("" + t40, "ruleRight", 0);
  }

  private static void largestSidesByReadTheory() {
    Script s = withGreatestConstant("an equation cannot be added, by readTheory").theory("c != a;", 1);
    for (int i = 39; i <= 40; i++) {
      String deep = "f(".repeat(i) + "a" + ")".repeat(i);
      for (String text : new String[] {"a=" + deep, deep + "=a", "b=" + deep, deep + "=b"}) {
        s.due("1", "push").text("a!=b; c=c;" + text + ";");
        if (i == 39) {
          s.due("3", "readTheory").due("1", "ruleCount").due("2", "equationCount");
        } else {
          s.refusedText(ARITHMETIC, "readTheory").due("0", "equationCount");
        }
        s.due("0", "pop").due("1", "separationCount").due("0", "ruleCount");
      }
    }
    // Sizes: b becomes 145, so that the left sides become 296, 300 and 301.
    String bush = "a";
    for (int i = 0; i < 6; i++) {
      bush = "g(" + bush + "," + bush + ")";
    }
    s.theory("b=g(" + bush + ",g(g(g(g(a,a),g(a,a)),g(a,a)),g(g(a,a),a)));", 1)
        .due("145", "size", s.answer("ruleRight", 0));
    s.due("1", "push").theory("h(b,b,h(a,a,f(a)))=c;", 1).due("296", "size", s.answer("ruleLeft", 0))
        .due("0", "pop").due("1", "push").theory("h(b,b,h(f(a),h(f(a),a,a),a))=c;", 1)
        .due("300", "size", s.answer("ruleLeft", 0)).due("0", "pop")
        .text("h(b,b,h(f(a),h(f(a),a,a),f(a)))=c;").refusedText(ARITHMETIC, "readTheory")
        .due("1", "ruleCount");
  }

  private static void equationsLargerThanTheirRules() {
    Script s = signature("an equation may be large if the rules are not");
    int a = s.number("a");
    int b = s.number("b");
    int t1000 = s.bush(3, 4, a, 1000);
    int deep = s.chain(3, a, 59);
    s.due("0", "equate", t1000, t1000).due("1", "equate", deep, deep).due("0", "ruleCount")
        .refused(ARITHMETIC, "equate", deep, b).refused(ARITHMETIC, "equate", t1000, b)
        .due("1", "push").due("2", "equate", s.number("f(a)"), a).due("3", "equate", deep, b)
        .due("2", "ruleCount").due("1", "areEqual", a, b)
        .due("4", "equate", s.number("g(a,a)"), a).due("5", "equate", t1000, s.number("c"))
        .due("4", "ruleCount").due("0", "pop")
        .refused(ARITHMETIC, "equate", deep, b).refused(ARITHMETIC, "equate", t1000, b);
  }

  private static void otherRulesTooLarge() {
    // The rule g(b,c) = a is one of size 3 as long as b is normal.
    Script s = withGreatestConstant("an equation cannot be added if the theory would have such a rule");
    int a = s.number("a");
    int b = s.number("b");
    int left = s.number("g(b,c)");
    s.due("0", "equate", left, a).due("1", "ruleCount");
    int t298 = s.bush(3, 4, a, 298);
    int t299 = s.bush(3, 4, a, 299);
    s.refused(ARITHMETIC, "equate", b, t299).due("1", "push").due("1", "equate", b, t298)
        .due("2", "ruleCount").due("300", "size", s.answer("ruleLeft", 0)).due("0", "pop");
    int t39 = s.chain(3, a, 38);
    int t40 = s.chain(3, a, 39);
    s.refused(ARITHMETIC, "equate", b, t40).due("1", "push").due("1", "equate", b, t39)
        .due("40", "depth", s.answer("ruleLeft", 0)).due("0", "pop").due("1", "ruleCount");
    // A later equation of the same text would make the rules small again: that does not help.
    String deep = "f(".repeat(39) + "a" + ")".repeat(39);
    s.text("b=" + deep + "; f(a)=a;").refusedText(ARITHMETIC, "readTheory").due("1", "ruleCount")
        .theory("f(a)=a; b=" + deep + ";", 2).due("3", "ruleCount");
  }

  private static void steps() {
    Script s = signature("steps can be made as long as the term is not normal; they end with its normal form")
        .theory("h(a,b,c) = f(c); f(f(c)) = b; c = b;", 3);
    int t = s.number("h(a,c,f(h(a,c,c)))");
    // c, c and c; then h(a,b,b) = f(b), and f(f(b)) = b; then h(a,b,b) = f(b).
    s.due("6", "stepCount", t).writes("f(b)", s.answer("afterSteps", t, 6))
        .due(s.ask("normalForm", t), "afterSteps", t, 6)
        .writes("h(a,b,f(h(a,b,c)))", s.answer("afterSteps", t, 2))
        .writes("h(a,b,f(h(a,b,b)))", s.answer("afterSteps", t, 3))
        .writes("h(a,b,f(f(b)))", s.answer("afterSteps", t, 4))
        .writes("h(a,b,b)", s.answer("afterSteps", t, 5))
        .due("" + t, "afterSteps", t, 0).refused(INDEX, "afterSteps", t, 7)
        .refused(INDEX, "afterSteps", t, -1);
    int normal = s.answer("normalForm", t);
    s.due("0", "stepCount", normal).due("" + normal, "afterSteps", normal, 0)
        .refused(INDEX, "afterSteps", normal, 1);
  }

  // ---- levels

  private static void mostLevels() {
    Script s = signature("at most 8 levels");
    for (int i = 1; i <= 8; i++) {
      s.due("" + i, "push").theory(i % 2 == 0 ? "a!=b;" : "a=a;", 1);
    }
    s.refused(STATE, "push").due("4", "equationCount").due("4", "separationCount");
    for (int i = 7; i >= 0; i--) {
      s.due("" + i, "pop").due("" + (i + 1) / 2, "equationCount").due("" + i / 2, "separationCount");
    }
    s.refused(STATE, "pop").due("1", "push").due("0", "pop").refused(STATE, "pop");
  }

  private static void latestPush() {
    Script s = signature("pop removes what was added after the latest push that has not been undone");
    s.theory("a=b;", 1).due("1", "push").theory("b=c; a!=b;", 2).due("2", "push").due("1", "pop")
        .theory("f(a)=a;", 1).due("3", "equationCount").due("1", "separationCount").due("3", "ruleCount")
        .due("0", "pop").due("1", "equationCount").due("0", "separationCount").due("1", "ruleCount")
        .refused(STATE, "pop").due("1", "equationCount");
    // A statement that was refused is not there afterwards either.
    s.due("1", "push").text("b=c;a=" + "f(".repeat(40) + "a" + ")".repeat(40) + ";")
        .refusedText(ARITHMETIC, "readTheory").due("0", "pop").due("1", "equationCount");
  }

  private static void notAffected() {
    Script s = signature("symbols, term numbers, solutions, input and output are not affected")
        .reads("f(x)", 0).reads("f(b)", 1).due("1", "match", 0, 1).due("4", "write", 1);
    s.due("1", "push").symbol("n", 0).due("2", "term", 8, 0, 0, 0).theory("b=n;", 1)
        .error("f f", "read", 5, 0).text("n");
    s.due("0", "pop").due("9", "symbolCount").due("3", "termCount").due("5", "errorKind")
        .due("0", "errorPosition").outputs("f(b)").due("1", "trim", 1).due("2", "read")
        .due("3", "solution", 0, 6).writes("b", 3);
    // A level opened behind them does not touch them either.
    s.due("1", "match", 0, 1).text("n").due("1", "push").due("1", "trim", 1).due("2", "read")
        .due("3", "solution", 0, 6).outputs("b").due("0", "pop").outputs("b");
  }
}
