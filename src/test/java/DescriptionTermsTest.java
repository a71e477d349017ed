/**
 * The sentences of the description (symbols, terms, term numbers, order of terms) that name a
 * boundary, in the order of the document, each one with what is allowed last and what is not allowed
 * first. A script is named after its sentence.
 */
public final class DescriptionTermsTest {
  private static final String INDEX = "IndexOutOfBoundsException";
  private static final String ARGUMENT = "IllegalArgumentException";
  private static final String STATE = "IllegalStateException";
  private static final String ARITHMETIC = "ArithmeticException";

  public static void main(String[] args) {
    calls();
    numbersOfSymbols();
    signsOfNames();
    lengthsOfNames();
    differentNames();
    aritiesAndWeights();
    firstDirection();
    variables();
    ranks();
    sameTerms();
    sizesAndDepths();
    groundTerms();
    termNumbers();
    tooLargeByTerm();
    tooLargeByReplace();
    tooLargeByRead();
    tooLargeByNormalForm();
    tooLargeBySteps();
    tooLargeBySmallest();
    tooLargeBySolution();
    pathOrder();
    weightOrder();
    directions();
    fixedOrder();
    Script.end("DescriptionTermsTest");
  }

  private static void calls() {
    Script s = new Script("an object is used for at most 512 calls");
    s.due("20", "feed", 'a' << 24, 0, 0, 0, 0).due("1", "trim", 1).due("0", "declare", 0, 1)
        .due("20", "feed", 'f' << 24, 0, 0, 0, 0).due("1", "trim", 1).due("1", "declare", 1, 1)
        .due("0", "term", 0, 0, 0, 0);
    for (int i = 1; i < 60; i++) {
      s.due("" + i, "term", 1, i - 1, 0, 0);
    }
    s.due("0", "equate", 2, 0).due("1", "equate", 5, 0);
    for (int i = 69; i < 512; i++) {
      s.due("" + i % 60, "stepCount", i % 60);
    }
    s.due("0", "normalForm", 59);
  }

  // ---- symbols

  private static void numbersOfSymbols() {
    for (String last : new String[] {"declare", "declareVariable"}) {
      Script s = new Script("symbols are numbered from 0; at most 24 can be declared; last " + last);
      for (int i = 0; i < 22; i++) {
        s.text("s" + i).due("" + i, "declare", i % 4, 1);
      }
      s.text("x").due("22", "declareVariable");
      s.text("last").due("23", last, 2, 1).due("24", "symbolCount")
          .text("more").refusedText(STATE, "declare", 0, 1)
          .text("more").refusedText(STATE, "declareVariable");
      // The last symbol is as good as the others.
      s.due("0", "setDirection", 23, 1).due("1", "setDirection", 23, 1).due("23", "rankOf", 23)
          .due("23", "promote", 23, 0).due("0", "promote", 23, 23)
          .refused(INDEX, "rankOf", 24).refused(INDEX, "promote", 24, 0)
          .refused(INDEX, "promote", 0, 24).refused(INDEX, "setDirection", 24, 0)
          .refused(INDEX, "term", 24, 0, 0, 0)
          .due("0", "term", 0, 0, 0, 0).due("1", "term", 23, 0, 0, 0).due("23", "symbolOf", 1)
          .due("1", "compare", 1, 0);
      s.writes(last.equals("declare") ? "last(s0,s0)" : "last", 1);
    }
  }

  private static void signsOfNames() {
    for (int sign = 0; sign < 256; sign++) {
      boolean isLetter = sign >= 'a' && sign <= 'z';
      boolean isDigit = sign >= '0' && sign <= '9';
      for (String op : new String[] {"declare", "declareVariable"}) {
        declareOne(op, "" + (char) sign, isLetter);
        declareOne(op, "a" + (char) sign, isLetter || isDigit);
        declareOne(op, "a" + (char) sign + "a", isLetter || isDigit);
      }
    }
  }

  private static void lengthsOfNames() {
    for (String op : new String[] {"declare", "declareVariable"}) {
      for (int length : new int[] {0, 1, 2, 7, 8, 9, 10, 19, 20, 21, 256, 264, 400}) {
        declareOne(op, "z".repeat(length), length >= 1 && length <= 8);
      }
    }
  }

  private static void declareOne(String op, String name, boolean isName) {
    Script s = new Script("names are 1 to 8 letters and digits, the first one a letter: " + name)
        .text(name);
    if (isName) {
      s.due("0", op, 0, 1).due("1", "symbolCount").due("0", "trim", 0);
    } else {
      s.refusedText(ARGUMENT, op, 0, 1).due("0", "symbolCount");
    }
  }

  private static void differentNames() {
    for (String first : new String[] {"declare", "declareVariable"}) {
      for (String second : new String[] {"declare", "declareVariable"}) {
        new Script("all names are different: " + first + ", " + second)
            .text("abc").due("0", first, 0, 1)
            .text("abc").refusedText(STATE, second, 0, 1)
            .text("ab").due("1", second, 0, 1)
            .text("abcd").due("2", second, 0, 1)
            .text("abd").due(second.equals("declare") ? "3" : first.equals("declare") ? "3"
                : "throws " + STATE, second, 0, 1);
      }
    }
  }

  private static void aritiesAndWeights() {
    for (int arity : new int[] {Integer.MIN_VALUE, -1, 0, 1, 2, 3, 4, Integer.MAX_VALUE}) {
      Script s = new Script("an arity from 0 to 3: " + arity).symbol("a", 0).text("f");
      if (arity < 0 || arity > 3) {
        s.refusedText(ARGUMENT, "declare", arity, 1).due("1", "symbolCount");
        continue;
      }
      s.due("1", "declare", arity, 1).due("0", "term", 0, 0, 0, 0).due("1", "term", 1, 0, 0, 0)
          .due("" + (arity + 1), "size", 1).refused(INDEX, "argument", 1, arity);
      if (arity > 0) {
        s.due("0", "argument", 1, arity - 1).refused(INDEX, "argument", 1, -1);
      }
    }
    Script w = new Script("a weight from 1 to 9").due("0", "orderByWeight", 1);
    for (int weight : new int[] {Integer.MIN_VALUE, -1, 0, 10, 11, Integer.MAX_VALUE}) {
      w.text("w").refusedText(ARGUMENT, "declare", 0, weight).due("0", "symbolCount");
    }
    // The heavier ones are declared first, so that the precedence alone would say the contrary.
    for (int weight = 9; weight >= 1; weight--) {
      w.text("w" + weight).due("" + (9 - weight), "declare", 0, weight);
    }
    for (int i = 0; i < 9; i++) {
      w.due("" + i, "term", i, 0, 0, 0);
    }
    for (int i = 0; i < 8; i++) {
      w.due("1", "compare", i, i + 1).due("-1", "compare", i + 1, i);
    }
  }

  private static void firstDirection() {
    new Script("a direction, which is left to right at first").symbol("a", 0).symbol("b", 0)
        .symbol("g", 2).due("0", "setDirection", 2, 0)
        .reads("g(b,a)", 0).reads("g(a,b)", 1).due("1", "compare", 0, 1);
  }

  private static void variables() {
    new Script("some symbols of arity 0 are variables; at most 3").symbol("a", 0)
        .variable("x").variable("y").variable("z").text("w").refusedText(STATE, "declareVariable")
        .due("4", "symbolCount").symbol("w", 0).text("v").refusedText(STATE, "declareVariable")
        .due("0", "term", 3, -1, -1, -1).refused(INDEX, "argument", 0, 0);
    new Script("the weight of a variable is 1").symbol("two", 0, 2).symbol("low", 0, 1).variable("x")
        .symbol("high", 0, 1).due("0", "orderByWeight", 1)
        .reads("two", 0).reads("low", 1).reads("x", 2).reads("high", 3)
        .due("-1", "compare", 2, 0).due("1", "compare", 2, 1).due("-1", "compare", 2, 3);
  }

  private static void ranks() {
    Script s = new Script("a new symbol is greater than all others").symbol("a", 0).symbol("b", 0);
    s.due("0", "promote", 0, 1).symbol("c", 0).due("2", "rankOf", 2).due("1", "rankOf", 0)
        .due("0", "rankOf", 1).due("2", "promote", 2, 0).variable("x").due("3", "rankOf", 3)
        .reads("a", 0).symbol("d", 0).due("4", "rankOf", 4).variable("y").due("5", "rankOf", 5)
        .reads("d", 1).reads("x", 2).reads("y", 3).due("1", "compare", 1, 2).due("1", "compare", 3, 1);
  }

  // ---- terms and their numbers

  private static Script signature(String name) {
    return new Script(name).symbol("a", 0).symbol("b", 0).symbol("f", 1).symbol("g", 2).symbol("h", 3)
        .variable("x");
  }

  private static void sameTerms() {
    signature("two terms are the same if they have the same symbol and the same arguments")
        .reads("h(a,b,f(a))", 0).text("h(a,b,f(b))").due("1", "read").text("h(b,a,f(a))").due("2", "read")
        .text("h(a,a,f(a))").due("3", "read").text("h(a, b, f(a))").due("0", "read")
        .due("4", "argument", 0, 0).due("5", "argument", 0, 1).due("6", "argument", 0, 2)
        .due("6", "term", 2, 4, 9, 9).due("0", "term", 4, 4, 5, 6).due("0", "compare", 0, 0)
        .due("-1", "compare", 0, 1);
    signature("the subterms of a term are the term itself and those of its arguments")
        .reads("g(f(a),f(a))", 0).reads("f(a)", 1).reads("a", 2)
        .due("1", "occurrences", 0, 0).due("2", "occurrences", 1, 0).due("2", "occurrences", 2, 0)
        .due("0", "occurrences", 0, 1);
  }

  private static void sizesAndDepths() {
    signature("size: each symbol counted wherever it occurs; depth 1 without arguments")
        .reads("a", 0).due("1", "size", 0).due("1", "depth", 0)
        .reads("x", 1).due("1", "size", 1).due("1", "depth", 1)
        .reads("f(a)", 2).due("2", "size", 2).due("2", "depth", 2)
        .reads("h(a,f(a),f(f(a)))", 3).due("7", "size", 3).due("4", "depth", 3)
        .reads("h(f(f(a)),f(a),a)", 4).due("7", "size", 4).due("4", "depth", 4)
        .reads("h(a,f(f(a)),a)", 5).due("6", "size", 5).due("4", "depth", 5);
  }

  private static void groundTerms() {
    Script s = signature("a term is ground if it contains no variable");
    s.reads("x", 0).reads("f(x)", 1).reads("h(a,b,x)", 2).reads("h(a,f(x),b)", 3).reads("h(x,a,b)", 4)
        .reads("h(a,b,f(a))", 5);
    for (int t = 0; t < 5; t++) {
      for (String op : new String[] {"equate", "separate", "match"}) {
        s.refused(ARGUMENT, op, 5, t);
      }
      s.refused(ARGUMENT, "equate", t, 5).refused(ARGUMENT, "separate", t, 5);
    }
    s.due("0", "separate", 5, 5).due("0", "equate", 5, 5).due("1", "match", 5, 5);
  }

  private static void termNumbers() {
    signature("the first one gets 0, the next one 1; a term keeps its number")
        .due("0", "termCount").text("g(f(a),b)").due("0", "read").due("1", "termCount")
        .due("1", "argument", 0, 1).due("2", "argument", 0, 0).due("3", "argument", 2, 0)
        .due("4", "termCount").due("1", "push").due("0", "equate", 2, 1)
        .due("4", "normalForm", 0).due("5", "termCount").due("2", "ruleLeft", 0)
        .due("1", "ruleRight", 0).due("0", "pop").due("4", "replace", 0, 2, 1)
        .due("0", "normalForm", 0).due("5", "termCount").writes("g(b,b)", 4);
  }


  private static void tooLargeByTerm() {
    Script s = signature("a term with a size above 1000 or a depth above 60 gets no number: term");
    int a = s.number("a");
    int t997 = s.bush(2, 3, a, 997);
    int t998 = s.bush(2, 3, a, 998);
    int t999 = s.bush(2, 3, a, 999);
    int t1000 = s.chain(2, t999, 1);
    s.due("1000", "size", t1000).refused(ARITHMETIC, "term", 2, t1000, 0, 0)
        .due("1000", "size", s.answer("term", 3, t998, a, 0)).refused(ARITHMETIC, "term", 3, t999, a, 0)
        .refused(ARITHMETIC, "term", 3, a, t999, 0)
        .due("1000", "size", s.answer("term", 4, a, t997, a))
        .refused(ARITHMETIC, "term", 4, a, a, t998).refused(ARITHMETIC, "term", 4, t998, a, a);
    int deep = s.chain(2, a, 59);
    int less = s.answer("argument", deep, 0);
    s.due("60", "depth", deep).refused(ARITHMETIC, "term", 2, deep, 0, 0)
        .due("60", "depth", s.answer("term", 3, a, less, 0)).refused(ARITHMETIC, "term", 3, a, deep, 0)
        .refused(ARITHMETIC, "term", 3, deep, a, 0)
        .due("60", "depth", s.answer("term", 4, a, a, less)).refused(ARITHMETIC, "term", 4, a, a, deep)
        .refused(ARITHMETIC, "term", 4, a, deep, a).refused(ARITHMETIC, "term", 4, deep, a, a);
    s.due(s.ask("termCount"), "term", 1, 0, 0, 0);
  }

  private static void tooLargeByReplace() {
    Script s = signature("a term with a size above 1000 or a depth above 60 gets no number: replace");
    int a = s.number("a");
    int b = s.number("b");
    int half = s.answer("term", 3, s.bush(2, 3, a, 499), b, 0);
    int t500 = s.bush(2, 3, a, 500);
    int t501 = s.bush(2, 3, a, 501);
    s.due("501", "size", half).due("1000", "size", s.answer("replace", half, b, t500))
        .refused(ARITHMETIC, "replace", half, b, t501);
    int deep = s.chain(2, b, 29);
    int t31 = s.chain(2, a, 30);
    int t32 = s.chain(2, a, 31);
    s.due("60", "depth", s.answer("replace", deep, b, t31)).refused(ARITHMETIC, "replace", deep, b, t32);
    s.due(s.ask("termCount"), "term", 5, 0, 0, 0);
  }

  private static void tooLargeByRead() {
    Script s = signature("a term with a size above 1000 or a depth above 60 gets no number: read");
    s.text("f(".repeat(59) + "a" + ")".repeat(59)).due("0", "read").due("60", "depth", 0)
        .error("f(".repeat(60) + "a" + ")".repeat(60), "read", 4, 120)
        .due("1", "termCount").due("1", "term", 0, 0, 0, 0);
    // The largest term that a buffer holds: a comma or parenthesis for each symbol.
    String text = "h(a,a,".repeat(49) + "a" + ")".repeat(49);
    s.text(text).due("2", "read").due("148", "size", 2);
  }

  /** The constant b is equal to a term without b that is less, as b has become the greatest symbol. */
  private static Script withLargeConstant(String name, int size, int depth) {
    Script s = signature(name).due("1", "promote", 1, 5);
    int a = s.number("a");
    int bush = s.bush(2, 3, a, size);
    int t = depth == 0 ? bush : s.chain(2, a, depth - 1);
    return s.due("0", "equate", s.number("b"), t);
  }

  private static void tooLargeByNormalForm() {
    String name = "a term with a size above 1000 or a depth above 60 gets no number: normalForm";
    Script s = withLargeConstant(name, 300, 0);
    int b = s.number("b");
    int a = s.number("a");
    int last = s.answer("term", 3, s.bush(2, 3, a, 699), b, 0);
    int over = s.answer("term", 3, s.bush(2, 3, a, 700), b, 0);
    s.due("1000", "size", s.answer("normalForm", last)).refused(ARITHMETIC, "normalForm", over)
        .due("1", "areEqual", over, over).due("1", "stepCount", over);
    s.due(s.ask("termCount"), "term", 5, 0, 0, 0);
    Script d = withLargeConstant(name, 1, 40);
    int t20 = d.chain(2, d.number("b"), 20);
    int t21 = d.chain(2, t20, 1);
    d.due("60", "depth", d.answer("normalForm", t20)).refused(ARITHMETIC, "normalForm", t21);
    d.due(d.ask("termCount"), "term", 5, 0, 0, 0);
  }

  private static void tooLargeBySteps() {
    String name = "a term with a size above 1000 or a depth above 60 gets no number: afterSteps";
    Script s = withLargeConstant(name, 300, 0);
    int b = s.number("b");
    int a = s.number("a");
    // Each of three steps makes 299 symbols more.
    int last = s.answer("term", 4, s.bush(2, 3, a, 400), b, b);
    int over = s.answer("term", 4, s.bush(2, 3, a, 401), b, b);
    s.due("403", "size", last).due("2", "stepCount", last)
        .due("702", "size", s.answer("afterSteps", last, 1)).refused(ARITHMETIC, "afterSteps", over, 2)
        .due("703", "size", s.answer("afterSteps", over, 1));
    int exact = s.answer("term", 4, s.bush(2, 3, a, 399), b, b);
    s.due("1000", "size", s.answer("afterSteps", exact, 2)).refused(ARITHMETIC, "afterSteps", last, 2)
        .refused(INDEX, "afterSteps", last, 3);
    s.due(s.ask("termCount"), "term", 5, 0, 0, 0);
    Script d = withLargeConstant(name, 1, 40);
    int t20 = d.answer("term", 3, d.number("a"), d.chain(2, d.number("b"), 19), 0);
    int t21 = d.chain(2, t20, 1);
    d.due("60", "depth", d.answer("afterSteps", t20, 1)).refused(ARITHMETIC, "afterSteps", t21, 1)
        .due("" + t21, "afterSteps", t21, 0);
    d.due(d.ask("termCount"), "term", 5, 0, 0, 0);
  }

  private static void tooLargeBySmallest() {
    String name = "a term with a size above 1000 or a depth above 60 gets no number: smallest";
    // The smallest term has at most the size of the term itself.
    Script s = withLargeConstant(name, 300, 0);
    int t1000 = s.answer("term", 3, s.bush(2, 3, s.number("a"), 998), s.number("b"), 0);
    s.due("" + t1000, "smallest", t1000).refused(ARITHMETIC, "normalForm", t1000);
    // As small as h(a,a,a), and greater than it, but less than g(f(a),a): f(f(f(a))).
    Script d = signature(name).due("4", "promote", 4, 5).theory("h(a,a,a) = f(f(f(a)));", 1);
    int t = d.number("h(a,a,a)");
    int deep = d.chain(2, t, 56);
    int more = d.chain(2, deep, 1);
    d.due("58", "depth", deep).due("60", "depth", d.answer("smallest", deep))
        .due("59", "depth", more).refused(ARITHMETIC, "smallest", more);
    d.due(d.ask("termCount"), "term", 5, 0, 0, 0);
  }

  private static void tooLargeBySolution() {
    String name = "a term with a size above 1000 or a depth above 60 gets no number: solution";
    Script s = withLargeConstant(name, 300, 0);
    int pattern = s.number("f(x)");
    int b = s.number("b");
    int a = s.number("a");
    int last = s.answer("term", 2, s.answer("term", 3, s.bush(2, 3, a, 699), b, 0), 0, 0);
    int over = s.answer("term", 2, s.answer("term", 3, s.bush(2, 3, a, 700), b, 0), 0, 0);
    s.due("1", "match", pattern, last).due("1000", "size", s.answer("solution", 0, 5))
        .due("1", "match", pattern, over).refused(ARITHMETIC, "solution", 0, 5);
    s.due(s.ask("termCount"), "term", 5, 0, 0, 0);
    Script d = withLargeConstant(name, 1, 40);
    pattern = d.number("f(x)");
    int t21 = d.chain(2, d.number("b"), 21);
    int t22 = d.chain(2, t21, 1);
    d.due("1", "match", pattern, t21).due("60", "depth", d.answer("solution", 0, 5))
        .due("1", "match", pattern, t22).refused(ARITHMETIC, "solution", 0, 5);
    d.due(d.ask("termCount"), "term", 5, 0, 0, 0);
  }

  // ---- the order of terms

  private static void greater(Script s, String first, String second) {
    int one = s.number(first);
    int two = s.number(second);
    s.due("1", "compare", one, two).due("-1", "compare", two, one).due("0", "compare", one, one);
  }

  private static void pathOrder() {
    Script s = signature("path order");
    // x is the greatest symbol and b is greater than a; f, g and h are greater than both.
    // (1) An argument of s is the same as t, or greater than t.
    greater(s, "f(x)", "x");
    greater(s, "f(f(x))", "x");
    greater(s, "g(a,x)", "h(a,a,a)");
    greater(s, "f(h(a,a,a))", "h(a,a,a)");
    greater(s, "f(h(a,a,b))", "h(a,a,a)");
    // (2) A greater symbol, if s is greater than every argument of t; if not, t is greater.
    greater(s, "g(a,a)", "f(a)");
    greater(s, "g(b,a)", "f(f(b))");
    greater(s, "f(g(a,a))", "g(a,a)");
    greater(s, "f(x)", "g(a,b)");
    greater(s, "x", "h(b,b,b)");
    // (3) The same symbol: the first argument that differs decides, if s is greater than all of them.
    greater(s, "g(b,a)", "g(a,b)");
    greater(s, "g(a,g(a,b))", "g(a,b)");
    greater(s, "g(a,x)", "g(b,b)");
    greater(s, "h(a,b,b)", "h(a,b,a)");
    greater(s, "h(a,f(a),a)", "h(a,b,b)");
  }

  private static void weightOrder() {
    Script s = new Script("weight order").symbol("a", 0, 1).symbol("b", 0, 2).symbol("f", 1, 1)
        .symbol("g", 2, 1).variable("x").symbol("h", 3, 9);
    s.due("0", "orderByWeight", 1);
    // (1) The greater weight.
    greater(s, "f(f(a))", "b");
    greater(s, "g(a,a)", "f(a)");
    greater(s, "b", "x");
    greater(s, "h(a,a,a)", "g(g(b,b),f(a))");
    // (2) Equal weights: the symbol.
    greater(s, "f(a)", "b");
    greater(s, "g(a,a)", "f(f(a))");
    greater(s, "x", "a");
    // (3) Equal weights and the same symbol: the first argument that differs.
    greater(s, "g(f(a),a)", "g(a,f(a))");
    greater(s, "g(f(a),a)", "g(b,a)");
    greater(s, "h(a,b,a)", "h(a,a,b)");
    greater(s, "f(g(a,a))", "f(f(f(a)))");
  }

  private static void directions() {
    for (int byWeight = 0; byWeight <= 1; byWeight++) {
      Script s = signature("the first argument at which they differ, as the direction says");
      s.due("0", "orderByWeight", byWeight).due("0", "setDirection", 3, 1);
      greater(s, "g(a,b)", "g(b,a)");
      greater(s, "g(b,b)", "g(a,b)");
      greater(s, "h(b,a,a)", "h(a,b,b)");
      greater(s, "h(a,b,a)", "h(a,a,b)");
      Script other = signature("the direction of the other symbol is as before");
      other.due("0", "orderByWeight", byWeight).due("0", "setDirection", 4, 1);
      greater(other, "g(b,a)", "g(a,b)");
      greater(other, "h(a,a,b)", "h(b,b,a)");
      greater(other, "h(a,b,a)", "h(b,a,a)");
    }
  }

  private static Script stillFree(Script s) {
    return s.due("0", "orderByWeight", 1).due("1", "orderByWeight", 0).due("0", "promote", 0, 1)
        .due("1", "promote", 0, 0).due("0", "setDirection", 0, 1).due("1", "setDirection", 0, 0);
  }

  private static Script fixed(Script s) {
    return s.refused(STATE, "orderByWeight", 1).refused(STATE, "orderByWeight", 0)
        .refused(STATE, "promote", 0, 1).refused(STATE, "promote", 0, 0)
        .refused(STATE, "setDirection", 0, 1).refused(STATE, "setDirection", 0, 0);
  }

  private static void fixedOrder() {
    String name = "the order is fixed as soon as a term has got a number: ";
    Script s = signature(name + "term");
    stillFree(s).refused(INDEX, "term", 2, 0, 0, 0).refused(INDEX, "term", 6, 0, 0, 0);
    stillFree(s).due("0", "term", 0, 0, 0, 0);
    fixed(s);
    Script r = signature(name + "read").error("a a", "read", 1, 2);
    stillFree(r).error("f(".repeat(60) + "a", "read", 4, 120);
    stillFree(r).text("x").due("0", "read");
    fixed(r).due("1", "push").due("0", "pop");
    fixed(r);
    name = "or a statement has been added by readTheory: ";
    String deep = "f(".repeat(40) + "a" + ")".repeat(40);
    for (String statement : new String[] {"a = a;", "a != a;"}) {
      Script t = signature(name + statement).theory("", 0).theory(" \n", 0);
      stillFree(t).error(statement + "a", "readTheory", 1, statement.length() + 1);
      stillFree(t).error(statement + " x = x;", "readTheory", 3, statement.length() + 1);
      stillFree(t).text("a=b;".repeat(31)).refusedText(STATE, "readTheory");
      stillFree(t).text("a!=b;".repeat(31)).refusedText(STATE, "readTheory");
      stillFree(t).text(statement + "b=" + deep + ";").refusedText(ARITHMETIC, "readTheory");
      stillFree(t).theory(statement, 1).due("0", "termCount");
      fixed(t);
    }
    Script p = signature("fixed even when the statement is gone").due("1", "push").theory("a!=b;", 1)
        .due("0", "pop").due("0", "separationCount");
    fixed(p);
    // The symbols that are declared later are the greatest ones, and stay so.
    p.symbol("n", 2).due("6", "rankOf", 6).refused(STATE, "promote", 6, 0)
        .refused(STATE, "promote", 6, 6).refused(STATE, "setDirection", 6, 1)
        .refused(INDEX, "promote", 7, 0).refused(INDEX, "promote", 0, 7)
        .refused(INDEX, "setDirection", 7, 1);
    greater(p, "n(a,b)", "h(b,b,b)");
  }
}
