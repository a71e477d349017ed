/** Promises 1 to 10: a new object, the input buffer, the symbols and what chooses the order. */
public final class InputTest {
  private static final String INDEX = "IndexOutOfBoundsException";
  private static final String ARGUMENT = "IllegalArgumentException";
  private static final String STATE = "IllegalStateException";

  public static void main(String[] args) {
    newObject();
    feed();
    trim();
    declare();
    declareVariable();
    symbolCount();
    orderByWeight();
    promote();
    rankOf();
    setDirection();
    whatFixesTheOrder();
    Script.end("InputTest");
  }

  private static void newObject() {
    new Script("promise 1")
        .due("0", "symbolCount")
        .due("0", "termCount")
        .due("0", "equationCount")
        .due("0", "separationCount")
        .due("0", "ruleCount")
        .due("0", "errorKind")
        .due("-1", "errorPosition")
        .due("1", "isConsistent")
        .refused("NoSuchElementException", "conflict")
        .refused(STATE, "pop")
        .refused(INDEX, "outputByte", 0)
        .refused(INDEX, "solution", 0, 0)
        .refused(INDEX, "size", 0)
        .refused(ARGUMENT, "trim", 1)
        .due("0", "trim", 0)
        .due("0", "orderByWeight", 0)
        // 17 and six zeros.
        .due("" + (17L * 31 * 31 * 31 * 31 * 31 * 31), "digest");
  }

  private static void feed() {
    Script s = new Script("promise 2");
    // a of the lowest byte of e: the bytes go from the highest to the lowest of each parameter.
    s.due("20", "feed", 'a' << 24 | 'b' << 16 | 'c' << 8 | 'd', 'e' << 24, 0, 0, 0)
        .due("5", "trim", 5).due("0", "declare", 0, 1).text("abcde")
        .refusedText(STATE, "declare", 0, 1);
    s.due("20", "feed", 0x20202020, 0x20202020, 0x20202020, 0x20202020, 0x20202061)
        .refusedText(ARGUMENT, "read").due("2", "errorKind").due("19", "errorPosition");
    s.due("20", "feed", 0x20202020, 0x20202020, 0x20202020, 0x20612020, 0x20202020)
        .refusedText(ARGUMENT, "read").due("13", "errorPosition");
    for (int i = 1; i <= 20; i++) {
      s.due("" + 20 * i, "feed", 0x20202020, 0x20202020, 0x20202020, 0x20202020, 0x20202020);
    }
    s.refused(STATE, "feed", 0, 0, 0, 0, 0)
        .due("381", "trim", 381).refused(STATE, "feed", 0, 0, 0, 0, 0)
        .due("380", "trim", 380).due("400", "feed", -1, -1, -1, -1, -1)
        .refusedText(ARGUMENT, "read").due("1", "errorKind").due("380", "errorPosition");
  }

  private static void trim() {
    new Script("promise 3")
        .due("20", "feed", 0x61626361, 0x62636162, 0, 0, 0)
        .refused(ARGUMENT, "trim", 21)
        .refused(ARGUMENT, "trim", -1)
        .refused(ARGUMENT, "trim", Integer.MIN_VALUE)
        .due("20", "trim", 20)
        .due("3", "trim", 3)
        .refused(ARGUMENT, "trim", 4)
        .due("0", "declare", 0, 1)
        .text("abc").refusedText(STATE, "declareVariable")
        .text("x").due("0", "trim", 0).refusedText(ARGUMENT, "declare", 0, 1);
  }

  private static void declare() {
    Script s = new Script("promise 4")
        .text("a").due("0", "declare", 0, 1)
        .text("zz9a0yx8").due("1", "declare", 3, 9)
        .refused(ARGUMENT, "trim", 1);
    for (String name : new String[] {
        "", "A", "1a", "a ", " a", "a_", "abcdefghi", "a(", "aB", "\u00e1", "a\u00e1", "`", "{", "a/", "a:"}) {
      s.text(name).refusedText(ARGUMENT, "declare", 0, 1);
    }
    s.text("b").refusedText(ARGUMENT, "declare", -1, 1)
        .text("b").refusedText(ARGUMENT, "declare", 4, 1)
        .text("b").refusedText(ARGUMENT, "declare", 0, 0)
        .text("b").refusedText(ARGUMENT, "declare", 0, 10)
        .text("a").refusedText(STATE, "declare", 0, 1)
        .text("zz9a0yx8").refusedText(STATE, "declare", 1, 1)
        // What is named first is thrown first.
        .text("a").refusedText(ARGUMENT, "declare", 4, 1)
        .text("a").refusedText(ARGUMENT, "declare", 0, 0);
    s.variable("v").text("v").refusedText(STATE, "declare", 0, 1)
        .text("aa").due("3", "declare", 2, 5);
    for (int i = 4; i < 24; i++) {
      s.text("n" + i).due("" + i, "declare", i % 4, 1);
    }
    s.text("b").refusedText(STATE, "declare", 0, 1)
        .text("B").refusedText(ARGUMENT, "declare", 0, 1)
        .due("24", "symbolCount");
    // The arity and the weight are those that were given.
    new Script("promise 4, arity and weight").symbol("a", 0, 9).symbol("b", 0, 1).symbol("h", 3, 1)
        .due("0", "orderByWeight", 1)
        .reads("a", 0).reads("b", 1).reads("h(b,b,b)", 2)
        .due("1", "compare", 0, 2).due("1", "argument", 2, 2);
  }

  private static void declareVariable() {
    Script s = new Script("promise 5")
        .symbol("a", 0)
        .text("a").refusedText(STATE, "declareVariable")
        .text("A").refusedText(ARGUMENT, "declareVariable")
        .text("").refusedText(ARGUMENT, "declareVariable")
        .text("abcdefghi").refusedText(ARGUMENT, "declareVariable")
        .text("x").due("1", "declareVariable")
        .text("x").refusedText(STATE, "declareVariable")
        .symbol("f", 1)
        .text("y").due("3", "declareVariable")
        .text("abcdefg1").due("4", "declareVariable")
        .text("w").refusedText(STATE, "declareVariable")
        .text("w").due("5", "declare", 0, 1);
    // A variable has no arguments, is no ground term and weighs 1.
    s.text("x(a)").refusedText(ARGUMENT, "read").due("5", "errorKind")
        .reads("f(y)", 0).reads("f(a)", 1)
        .refused(ARGUMENT, "equate", 0, 1).refused(ARGUMENT, "separate", 1, 0)
        .due("2", "size", 0);
    new Script("promise 5, the first symbol").variable("x").symbol("f", 1).reads("f(x)", 0)
        .refused(ARGUMENT, "equate", 0, 0).error("x=x;", "readTheory", 3, 0);
    Script full = new Script("promise 5, all symbols").variable("x");
    for (int i = 1; i < 24; i++) {
      full.symbol("n" + i, 0);
    }
    full.text("y").refusedText(STATE, "declareVariable");
    new Script("promise 5, weight").symbol("a", 0, 2).variable("x").symbol("b", 0, 1)
        .due("0", "orderByWeight", 1).reads("a", 0).reads("x", 1).reads("b", 2)
        .due("1", "compare", 0, 1).due("-1", "compare", 1, 2);
  }

  private static void symbolCount() {
    new Script("promise 6").due("0", "symbolCount").symbol("a", 0).due("1", "symbolCount")
        .variable("x").due("2", "symbolCount")
        .text("a").refusedText(STATE, "declare", 0, 1).due("2", "symbolCount");
  }

  private static void orderByWeight() {
    // By weight the larger term is the greater one, by path that with the greater symbol.
    new Script("promise 7, by weight").symbol("a", 0).symbol("f", 1).symbol("b", 0)
        .due("0", "orderByWeight", 1).due("1", "orderByWeight", 1).due("1", "orderByWeight", 0)
        .due("0", "orderByWeight", 0).due("0", "orderByWeight", 1)
        .reads("f(a)", 0).reads("b", 1).due("1", "compare", 0, 1)
        .refused(STATE, "orderByWeight", 1).refused(STATE, "orderByWeight", 0);
    new Script("promise 7, by path").symbol("a", 0).symbol("f", 1).symbol("b", 0)
        .reads("f(a)", 0).reads("b", 1).due("-1", "compare", 0, 1);
  }

  private static void promote() {
    Script s = new Script("promise 8");
    s.refused(INDEX, "promote", 0, 0);
    for (String name : new String[] {"a", "b", "c", "d", "e"}) {
      s.symbol(name, 0);
    }
    s.refused(INDEX, "promote", 5, 0).refused(INDEX, "promote", 0, 5)
        .refused(INDEX, "promote", -1, 0).refused(INDEX, "promote", 0, -1);
    ranks(s.due("0", "promote", 0, 3), 3, 0, 1, 2, 4);
    ranks(s.due("4", "promote", 4, 1), 4, 0, 2, 3, 1);
    ranks(s.due("2", "promote", 2, 2), 4, 0, 2, 3, 1);
    ranks(s.due("0", "promote", 1, 4), 3, 4, 1, 2, 0);
    // A new symbol is greater than all others.
    s.variable("x");
    ranks(s, 3, 4, 1, 2, 0, 5);
    ranks(s.due("5", "promote", 5, 0), 4, 5, 2, 3, 1, 0);
    s.reads("a", 0).reads("b", 1).reads("x", 2).due("-1", "compare", 0, 1).due("-1", "compare", 2, 0)
        .refused(STATE, "promote", 0, 0).refused(INDEX, "promote", 6, 0)
        .refused(INDEX, "promote", 0, 6);
    s.symbol("n", 0);
    ranks(s, 4, 5, 2, 3, 1, 0, 6);
  }

  private static void ranks(Script s, int... ranks) {
    for (int i = 0; i < ranks.length; i++) {
      s.due("" + ranks[i], "rankOf", i);
    }
  }

  private static void rankOf() {
    new Script("promise 9").refused(INDEX, "rankOf", 0).symbol("a", 0).variable("x").symbol("b", 1)
        .due("0", "rankOf", 0).due("1", "rankOf", 1).due("2", "rankOf", 2)
        .refused(INDEX, "rankOf", 3).refused(INDEX, "rankOf", -1)
        .due("2", "promote", 2, 0).due("1", "rankOf", 0).due("2", "rankOf", 1).due("0", "rankOf", 2);
  }

  private static void setDirection() {
    Script s = new Script("promise 10").symbol("a", 0).symbol("b", 0).symbol("g", 2).symbol("p", 2)
        .refused(INDEX, "setDirection", 4, 1).refused(INDEX, "setDirection", -1, 0)
        .due("0", "setDirection", 2, 1).due("1", "setDirection", 2, 1).due("1", "setDirection", 2, 0)
        .due("0", "setDirection", 2, 1).due("0", "setDirection", 0, 0);
    s.reads("g(a,b)", 0).reads("g(b,a)", 1).reads("p(a,b)", 2).reads("p(b,a)", 3)
        .due("1", "compare", 0, 1).due("-1", "compare", 2, 3)
        .refused(STATE, "setDirection", 2, 0).refused(INDEX, "setDirection", 4, 0)
        .symbol("q", 2).refused(STATE, "setDirection", 4, 1);
    new Script("promise 10, the first symbol").symbol("g", 2).symbol("a", 0).symbol("b", 0)
        .due("0", "setDirection", 0, 1).due("1", "setDirection", 0, 1)
        .reads("g(a,b)", 0).reads("g(b,a)", 1).due("1", "compare", 0, 1);
  }

  private static void whatFixesTheOrder() {
    new Script("fixed by a term").symbol("a", 0).symbol("b", 0).due("0", "orderByWeight", 0)
        .text("a b").refusedText(ARGUMENT, "read").due("0", "orderByWeight", 0)
        .reads("a", 0).refused(STATE, "orderByWeight", 0);
    new Script("fixed by a separation").symbol("a", 0).theory("", 0).due("0", "orderByWeight", 0)
        .theory(" \n ", 0).due("0", "promote", 0, 0)
        .text("a = a; b = a;").refusedText(ARGUMENT, "readTheory").due("0", "setDirection", 0, 0)
        .theory("a != a;", 1).refused(STATE, "orderByWeight", 0).refused(STATE, "promote", 0, 0)
        .refused(STATE, "setDirection", 0, 0).due("0", "termCount");
    new Script("fixed also after a pop").symbol("a", 0).due("1", "push").theory("a = a;", 1)
        .due("0", "pop").due("0", "equationCount").refused(STATE, "orderByWeight", 1);
    StringBuilder many = new StringBuilder();
    for (int i = 0; i < 31; i++) {
      many.append("a=a;");
    }
    new Script("not fixed by what was taken back").symbol("a", 0)
        .text(many.toString()).refusedText(STATE, "readTheory").due("0", "orderByWeight", 1);
  }
}
