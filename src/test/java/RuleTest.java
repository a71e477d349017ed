/** Promises 34 to 41: rules, normal forms, equality and steps. */
public final class RuleTest {
  private static final String INDEX = "IndexOutOfBoundsException";
  private static final String ARITHMETIC = "ArithmeticException";

  public static void main(String[] args) {
    ruleCount();
    ruleSides();
    ruleSidesByWeight();
    normalForm();
    normalFormTooLarge();
    areEqual();
    dependsOn();
    stepCount();
    afterSteps();
    afterStepsInEachArgument();
    afterStepsTooLarge();
    Script.end("RuleTest");
  }

  private static Script signature(String name) {
    return new Script(name).symbol("a", 0).symbol("b", 0).symbol("c", 0).symbol("f", 1)
        .symbol("g", 2).variable("x");
  }

  private static void ruleCount() {
    signature("promise 34").due("0", "ruleCount").theory("a = a;", 1).due("0", "ruleCount")
        .theory("c = b; f(a) = a; g(a,c) = f(c);", 3).due("3", "ruleCount")
        // Then b = a, c = a, f(a) = a and g(a,a) = a.
        .theory("a = c;", 1).due("4", "ruleCount").theory("f(b) = b;", 1).due("4", "ruleCount")
        .theory("c != a;", 1).due("4", "ruleCount").due("0", "termCount");
    // The rules of f(a) and f(b) become one as soon as a and b are equal.
    signature("promise 34, rules that become one").theory("f(b) = c; f(a) = c;", 2)
        .due("2", "ruleCount").theory("a = b;", 1).due("2", "ruleCount");
  }

  private static void ruleSides() {
    Script s = signature("promises 35 and 36")
        .theory("g(f(c),a) = b; f(a) = c; f(f(b)) = a; c = b;", 4).due("4", "ruleCount");
    // a < b < c < f < g. c = b makes f(a) = b, and f(f(b)) = a stays, g(f(b),a) = b too.
    s.due("0", "ruleLeft", 0).writes("c", 0).due("1", "ruleRight", 0).writes("b", 1)
        .due("2", "ruleLeft", 1).writes("f(a)", 2).due("1", "ruleRight", 1)
        .due("3", "ruleLeft", 2).writes("f(f(b))", 3).due("4", "ruleRight", 2).writes("a", 4)
        .due("1", "ruleRight", 3).due("5", "ruleLeft", 3).writes("g(f(b),a)", 5)
        .due("6", "termCount").due("0", "ruleLeft", 0);
    for (String op : new String[] {"ruleLeft", "ruleRight"}) {
      s.refused(INDEX, op, 4).refused(INDEX, op, -1);
    }
    signature("promises 35 and 36, no rules").refused(INDEX, "ruleLeft", 0)
        .refused(INDEX, "ruleRight", 0);
  }

  private static void ruleSidesByWeight() {
    Script s = new Script("promises 35 and 36, weight").symbol("a", 0, 9).symbol("f", 1, 2)
        .symbol("b", 0, 1).symbol("g", 2, 1).due("0", "orderByWeight", 1)
        .theory("a = g(b,b); f(b) = b; g(b,a) = f(a);", 3).due("3", "ruleCount");
    // Weights: g(b,b) 3, a 9, f(b) 3, b 1; g(b,g(b,b)) 5 = f(g(b,b)) 5, and f < g.
    s.due("0", "ruleLeft", 0).writes("f(b)", 0).due("1", "ruleRight", 0).writes("b", 1)
        .due("2", "ruleLeft", 1).writes("g(b,g(b,b))", 2)
        .due("3", "ruleRight", 1).writes("f(g(b,b))", 3)
        .due("4", "ruleLeft", 2).writes("a", 4).due("5", "ruleRight", 2).writes("g(b,b)", 5);
  }

  private static void normalForm() {
    Script s = signature("promise 37").theory("f(f(a)) = a; g(a,b) = c; c = f(b);", 3);
    s.reads("g(f(f(f(f(a)))),g(a,b))", 0).due("1", "normalForm", 0).writes("g(a,c)", 1)
        .due("1", "normalForm", 1).reads("f(x)", 2).due("2", "normalForm", 2)
        .reads("g(g(a,x),f(f(a)))", 3).due("4", "normalForm", 3).writes("g(g(a,x),a)", 4)
        .reads("f(b)", 5).due("6", "normalForm", 5).writes("c", 6)
        .refused(INDEX, "normalForm", 7).refused(INDEX, "normalForm", -1);
    signature("promise 37, no rules").reads("g(a,b)", 0).due("0", "normalForm", 0);
  }

  /** A greatest constant t with normal form f(f(..)) of the given depth. */
  private static Script withLargeConstant(String name, int depth) {
    Script s = new Script(name).symbol("a", 0).symbol("f", 1).symbol("g", 2).symbol("t", 0)
        .symbol("h", 3);
    StringBuilder text = new StringBuilder("t = ");
    for (int i = 1; i < depth; i++) {
      text.append("f(");
    }
    text.append("a");
    for (int i = 1; i < depth; i++) {
      text.append(")");
    }
    return s.theory(text.append(";").toString(), 1);
  }

  private static void normalFormTooLarge() {
    Script s = withLargeConstant("promise 37, too large", 40);
    // f(..f(t)..) with 20 f is 60 deep when t has become 40 deep; with 21 it is too deep.
    int t = s.number("t");
    for (int i = 0; i < 20; i++) {
      t = s.answer("term", 1, t, 0, 0);
    }
    s.due("60", "depth", s.answer("normalForm", t));
    int more = s.answer("term", 1, t, 0, 0);
    s.refused(ARITHMETIC, "normalForm", more);
    // 24 times 40 and 22 other symbols.
    int eight = s.number("g(g(g(t,t),g(t,t)),g(g(t,t),g(t,t)))");
    int all = s.answer("term", 4, eight, eight, eight);
    s.due("982", "size", s.answer("normalForm", all));
    int side = s.number("f(f(f(f(f(f(f(f(f(f(f(f(f(f(f(f(a))))))))))))))))");
    int most = s.answer("term", 2, all, side, 0);
    s.due("1000", "size", s.answer("normalForm", most));
    side = s.answer("term", 1, side, 0, 0);
    s.refused(ARITHMETIC, "normalForm", s.answer("term", 2, all, side, 0));
    s.refused(ARITHMETIC, "normalForm", s.answer("term", 4, all, all, all));
  }

  private static void areEqual() {
    signature("promise 38").theory("f(a) = b; f(b) = a; a = c;", 3)
        .reads("f(f(f(c)))", 0).reads("b", 1).reads("a", 2).reads("g(f(c),f(b))", 3)
        .reads("g(b,c)", 4).reads("x", 5).reads("g(x,f(a))", 6).reads("g(x,b)", 7)
        .due("1", "areEqual", 0, 1).due("0", "areEqual", 1, 2).due("1", "areEqual", 3, 4)
        .due("1", "areEqual", 4, 3).due("1", "areEqual", 5, 5).due("1", "areEqual", 6, 7)
        .due("0", "areEqual", 5, 1).due("0", "areEqual", 7, 4)
        .refused(INDEX, "areEqual", 8, 0).refused(INDEX, "areEqual", 0, 8)
        .refused(INDEX, "areEqual", -1, 0).refused(INDEX, "areEqual", 0, -1)
        .due("8", "termCount");
  }

  private static void dependsOn() {
    signature("promise 39").theory("a = b; b = c; a = c; f(a) = g(a,a);", 4)
        .reads("a", 0).reads("b", 1).reads("f(c)", 2).reads("g(b,b)", 3).reads("x", 4)
        .reads("f(x)", 5).due("1", "areEqual", 0, 1)
        // Each one of the first three follows from the other two.
        .due("0", "dependsOn", 0, 1, 0).due("0", "dependsOn", 0, 1, 1).due("0", "dependsOn", 0, 1, 2)
        .due("0", "dependsOn", 2, 3, 0).due("1", "dependsOn", 2, 3, 3).due("1", "dependsOn", 3, 2, 3)
        .due("0", "dependsOn", 2, 2, 3).due("0", "dependsOn", 2, 0, 3).due("0", "dependsOn", 4, 5, 3)
        .refused(INDEX, "dependsOn", 6, 0, 0).refused(INDEX, "dependsOn", 0, 6, 0)
        .refused(INDEX, "dependsOn", -1, 0, 0).refused(INDEX, "dependsOn", 0, -1, 0)
        .refused(INDEX, "dependsOn", 0, 1, 4).refused(INDEX, "dependsOn", 0, 1, -1)
        .due("4", "equationCount").due("3", "ruleCount");
    signature("promise 39, what is needed").theory("a = f(b); f(b) = c; f(a) = b;", 3)
        .reads("g(a,x)", 0).reads("g(c,x)", 1).reads("f(c)", 2).reads("b", 3)
        .due("1", "dependsOn", 0, 1, 0).due("1", "dependsOn", 0, 1, 1).due("0", "dependsOn", 0, 1, 2)
        .due("1", "dependsOn", 2, 3, 2).due("1", "dependsOn", 2, 3, 0)
        .due("1", "push").theory("c = a;", 1).due("0", "dependsOn", 0, 1, 0)
        .due("0", "pop").due("1", "dependsOn", 0, 1, 0).refused(INDEX, "dependsOn", 0, 1, 3);
  }

  private static void stepCount() {
    signature("promise 40").theory("f(a) = a; g(a,a) = f(b); c = a;", 3)
        .reads("a", 0).reads("f(f(c))", 1).reads("g(f(c),f(f(a)))", 2).reads("g(x,c)", 3)
        .reads("g(g(c,c),g(c,c))", 4)
        .due("0", "stepCount", 0).due("3", "stepCount", 1).due("5", "stepCount", 2)
        .due("1", "stepCount", 3).due("6", "stepCount", 4)
        .refused(INDEX, "stepCount", 5).refused(INDEX, "stepCount", -1).due("5", "termCount");
  }

  private static void afterSteps() {
    Script s = signature("promise 41").theory("f(a) = a; g(a,a) = f(b); c = a;", 3)
        .reads("g(g(f(c),c),f(f(a)))", 0);
    String[] terms = {
        "g(g(f(c),c),f(f(a)))", "g(g(f(a),c),f(f(a)))", "g(g(a,c),f(f(a)))", "g(g(a,a),f(f(a)))",
        "g(f(b),f(f(a)))", "g(f(b),f(a))", "g(f(b),a)"
    };
    s.due("6", "stepCount", 0);
    for (int i = 0; i < terms.length; i++) {
      s.due("" + i, "afterSteps", 0, i).writes(terms[i], i);
    }
    s.refused(INDEX, "afterSteps", 0, 7).refused(INDEX, "afterSteps", 0, -1)
        .refused(INDEX, "afterSteps", 7, 0).refused(INDEX, "afterSteps", -1, 0)
        .due("6", "normalForm", 0).due("5", "afterSteps", 3, 2);
    // A step at the root comes behind those inside.
    s.reads("g(f(c),c)", 7).due("4", "stepCount", 7).due("8", "afterSteps", 7, 3).writes("g(a,a)", 8)
        .due("9", "afterSteps", 7, 4).writes("f(b)", 9);
  }

  private static void afterStepsInEachArgument() {
    Script s = new Script("promise 41, in each argument").symbol("a", 0).symbol("b", 0).symbol("c", 0)
        .symbol("f", 1).symbol("h", 3).due("0", "setDirection", 4, 1)
        .theory("f(a) = b; f(b) = c; h(b,a,c) = a;", 3)
        .reads("h(f(a),h(c,f(a),f(b)),h(b,a,f(f(a))))", 0);
    String[] terms = {
        "h(f(a),h(c,f(a),f(b)),h(b,a,f(f(a))))", "h(b,h(c,f(a),f(b)),h(b,a,f(f(a))))",
        "h(b,h(c,b,f(b)),h(b,a,f(f(a))))", "h(b,h(c,b,c),h(b,a,f(f(a))))", "h(b,h(c,b,c),h(b,a,f(b)))",
        "h(b,h(c,b,c),h(b,a,c))", "h(b,h(c,b,c),a)"
    };
    s.due("6", "stepCount", 0);
    for (int i = 0; i < terms.length; i++) {
      s.writes(terms[i], s.answer("afterSteps", 0, i));
    }
    s.refused(INDEX, "afterSteps", 0, 7).writes("h(b,a,c)", s.answer("ruleLeft", 2))
        .writes("a", s.answer("ruleRight", 2));
  }

  private static void afterStepsTooLarge() {
    Script s = withLargeConstant("promise 41, too large", 40);
    int shallow = s.number("g(g(g(t,t),g(t,t)),g(g(t,t),g(t,t)))");
    int more = s.answer("term", 4, shallow, shallow, shallow);
    int most = s.answer("term", 2, more, shallow, 0);
    s.due("32", "stepCount", most);
    // Of the size 62, each step makes 39 more: 24 steps make 998, 25 too many.
    s.due("62", "size", most);
    s.due("998", "size", s.answer("afterSteps", most, 24));
    s.refused(ARITHMETIC, "afterSteps", most, 25).refused(ARITHMETIC, "afterSteps", most, 32)
        .refused(INDEX, "afterSteps", most, 33);
    // What is too large on the way does not matter for the steps before and after it.
    Script back = withLargeConstant("promise 41, large on the way", 39);
    back.theory("g(t,a) = a;", 1);
    int t = back.number("g(t,a)");
    for (int i = 0; i < 25; i++) {
      t = back.answer("term", 1, t, 0, 0);
    }
    back.due("2", "stepCount", t).refused(ARITHMETIC, "afterSteps", t, 1);
    back.due("26", "size", back.answer("afterSteps", t, 2));
  }
}
