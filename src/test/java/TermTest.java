/** Promises 11 and 15 to 24: terms, their order, and the output. */
public final class TermTest {
  private static final String INDEX = "IndexOutOfBoundsException";
  private static final String ARITHMETIC = "ArithmeticException";

  public static void main(String[] args) {
    term();
    tooLarge();
    termCount();
    partsOfTerms();
    compareByPath();
    compareByWeight();
    occurrences();
    replace();
    replaceTooLarge();
    write();
    writeTooLong();
    outputByte();
    Script.end("TermTest");
  }

  private static Script signature(String name) {
    return new Script(name).symbol("a", 0).symbol("b", 0).symbol("f", 1).symbol("g", 2).symbol("h", 3);
  }

  private static void term() {
    signature("promise 11").variable("x")
        // Parameters that are not used may be anything.
        .due("0", "term", 0, -7, 99, Integer.MIN_VALUE)
        .due("1", "term", 1, 0, 0, 0)
        .due("2", "term", 2, 1, -1, 77)
        .due("3", "term", 3, 2, 0, 77)
        .due("4", "term", 4, 0, 1, 3)
        .due("5", "term", 5, 0, 0, 0)
        .due("2", "term", 2, 1, 0, 0)
        .refused(INDEX, "term", 6, 0, 0, 0).refused(INDEX, "term", -1, 0, 0, 0)
        .refused(INDEX, "term", 2, 6, 0, 0).refused(INDEX, "term", 2, -1, 0, 0)
        .refused(INDEX, "term", 3, 0, 6, 0).refused(INDEX, "term", 3, -1, 0, 0)
        .refused(INDEX, "term", 4, 0, 0, 6).refused(INDEX, "term", 4, 0, 0, -1)
        .refused(INDEX, "term", 4, 0, 6, 0).refused(INDEX, "term", 4, 6, 0, 0)
        .writes("h(a,b,g(f(b),a))", 4);
  }

  private static int ofSize(Script s, int size) {
    return s.bush(2, 3, s.answer("term", 0, 0, 0, 0), size);
  }

  private static int ofDepth(Script s, int depth) {
    return s.chain(2, s.answer("term", 0, 0, 0, 0), depth - 1);
  }

  private static void tooLarge() {
    Script s = signature("promise 11, too large");
    int t999 = ofSize(s, 999);
    int t1000 = ofSize(s, 1000);
    int t499 = ofSize(s, 499);
    int t332 = ofSize(s, 332);
    int t333 = ofSize(s, 333);
    int one = ofSize(s, 1);
    s.due("999", "size", t999).due("1000", "size", t1000)
        .refused(ARITHMETIC, "term", 2, t1000, 0, 0)
        .refused(ARITHMETIC, "term", 3, t999, one, 0)
        .refused(ARITHMETIC, "term", 4, t999, t999, t999)
        .refused(INDEX, "term", 4, t999, t999, 999);
    s.due("999", "size", s.answer("term", 3, t499, t499, 0))
        .due("1000", "size", s.answer("term", 4, t333, t333, t333))
        .due("999", "size", s.answer("term", 4, t333, t333, t332));
    int deep = ofDepth(s, 60);
    s.due("60", "depth", deep).refused(ARITHMETIC, "term", 2, deep, 0, 0)
        .refused(ARITHMETIC, "term", 3, one, deep, 0)
        .refused(ARITHMETIC, "term", 4, one, one, deep);
    String count = s.ask("termCount");
    s.due(count, "term", 1, 0, 0, 0);
  }

  private static void termCount() {
    signature("promise 15").due("0", "termCount").reads("g(f(a),b)", 0).due("1", "termCount")
        .text("g(f(a),b)").due("0", "read").due("1", "termCount")
        .theory("a = f(b); h(a,a,a) != b;", 2).due("1", "termCount")
        .due("1", "argument", 0, 0).due("2", "termCount")
        .due("2", "argument", 1, 0).due("3", "argument", 0, 1).due("4", "termCount")
        .due("1", "argument", 0, 0).due("4", "termCount")
        .refused(INDEX, "argument", 0, 2).due("4", "termCount");
  }

  private static void partsOfTerms() {
    Script s = signature("promises 16 to 19").variable("x");
    s.refused(INDEX, "symbolOf", 0).refused(INDEX, "argument", 0, 0).refused(INDEX, "depth", 0);
    s.reads("h(f(f(x)),g(a,b),a)", 0).reads("b", 1)
        .due("4", "symbolOf", 0).due("1", "symbolOf", 1)
        .due("8", "size", 0).due("1", "size", 1).due("4", "depth", 0).due("1", "depth", 1)
        .due("2", "argument", 0, 2).due("3", "argument", 0, 0).due("4", "argument", 0, 1)
        .due("1", "argument", 4, 1).due("2", "argument", 4, 0)
        .due("2", "symbolOf", 3).due("3", "size", 3).due("3", "depth", 3)
        .due("3", "symbolOf", 4).due("3", "size", 4).due("2", "depth", 4);
    for (String op : new String[] {"symbolOf", "size", "depth"}) {
      s.refused(INDEX, op, 5).refused(INDEX, op, -1);
    }
    s.refused(INDEX, "argument", 0, 3).refused(INDEX, "argument", 0, -1)
        .refused(INDEX, "argument", 1, 0).refused(INDEX, "argument", 4, 2)
        .refused(INDEX, "argument", 5, 0).refused(INDEX, "argument", -1, 0);
  }

  /** Terms in ascending order, each pair compared in both directions. */
  private static void ascending(Script s, String... terms) {
    int[] numbers = new int[terms.length];
    for (int i = 0; i < terms.length; i++) {
      numbers[i] = s.number(terms[i]);
    }
    for (int i = 0; i < terms.length; i++) {
      for (int k = 0; k < terms.length; k++) {
        s.due("" + Integer.compare(i, k), "compare", numbers[i], numbers[k]);
      }
    }
    s.refused(INDEX, "compare", 0, terms.length).refused(INDEX, "compare", -1, 0)
        .refused(INDEX, "compare", terms.length, 0).refused(INDEX, "compare", 0, -1);
  }

  private static void compareByPath() {
    ascending(signature("promise 20, path").variable("x"),
        "a", "b", "f(a)", "f(b)", "f(f(a))", "f(f(b))", "g(a,a)", "g(a,b)", "f(g(a,b))",
        "g(a,f(a))", "g(b,a)", "g(b,f(f(b)))", "g(f(a),a)", "g(g(a,a),a)", "h(a,a,a)", "h(a,a,b)",
        "h(a,b,a)", "h(b,a,a)", "x", "f(x)", "g(x,a)");
    Script fromRight = signature("promise 20, path from the right");
    fromRight.due("0", "setDirection", 3, 1).due("0", "setDirection", 4, 1);
    ascending(fromRight,
        "g(a,a)", "g(b,a)", "g(f(a),a)", "g(a,b)", "g(b,b)", "g(a,f(a))", "h(a,a,a)", "h(b,a,a)",
        "h(a,b,a)", "h(b,b,a)", "h(a,a,b)");
    Script promoted = signature("promise 20, path with another precedence");
    // Then g < h < a < b < f.
    promoted.due("3", "promote", 3, 0).due("4", "promote", 4, 1);
    ascending(promoted, "a", "g(a,a)", "h(a,a,a)", "b", "g(a,b)", "g(b,a)", "h(a,b,a)", "f(a)",
        "h(a,a,f(a))", "f(g(a,a))", "f(h(a,a,a))", "f(b)");
  }

  private static void compareByWeight() {
    Script s = new Script("promise 20, weight").symbol("a", 0, 2).symbol("b", 0, 3)
        .symbol("f", 1, 1).symbol("g", 2, 1).symbol("c", 0, 9).variable("x");
    s.due("0", "orderByWeight", 1);
    ascending(s, "x", "a", "f(x)", "b", "f(a)", "f(f(x))", "g(x,x)", "f(b)", "f(f(a))",
        "f(g(x,x))", "g(x,a)", "g(x,f(x))", "g(a,x)", "g(f(x),x)", "c", "f(c)", "g(x,c)", "g(c,x)");
    Script fromRight = new Script("promise 20, weight from the right").symbol("a", 0, 1)
        .symbol("b", 0, 1).symbol("g", 2, 1);
    fromRight.due("0", "orderByWeight", 1).due("0", "setDirection", 2, 1);
    ascending(fromRight, "a", "b", "g(a,a)", "g(b,a)", "g(a,b)", "g(b,b)", "g(g(a,a),a)",
        "g(g(b,b),a)", "g(g(a,a),b)", "g(a,g(a,a))");
  }

  private static void occurrences() {
    signature("promise 21").reads("h(g(a,f(a)),f(a),f(f(a)))", 0).reads("a", 1).reads("f(a)", 2)
        .reads("f(f(a))", 3).reads("b", 4)
        .due("4", "occurrences", 1, 0).due("3", "occurrences", 2, 0).due("1", "occurrences", 3, 0)
        .due("1", "occurrences", 0, 0).due("0", "occurrences", 4, 0).due("0", "occurrences", 0, 1)
        .due("1", "occurrences", 2, 3).due("0", "occurrences", 3, 2)
        .refused(INDEX, "occurrences", 5, 0).refused(INDEX, "occurrences", 0, 5)
        .refused(INDEX, "occurrences", -1, 0).refused(INDEX, "occurrences", 0, -1);
    Script many = signature("promise 21, often");
    int t = ofSize(many, 999);
    many.due("1", "occurrences", t, t);
    int last = many.answer("term", 0, 0, 0, 0);
    // Sizes 1, 3, 6, 7, 15, 30, 31, 62, 124, 249, 499, 999 along the way, each pair doubled.
    many.due("" + countOfConstants(999), "occurrences", last, t);
  }

  private static int countOfConstants(int size) {
    return size == 1 ? 1
        : size % 2 == 0 ? countOfConstants(size - 1) : 2 * countOfConstants((size - 1) / 2);
  }

  private static void replace() {
    signature("promise 22").reads("g(f(a),g(a,b))", 0).reads("a", 1).reads("f(a)", 2).reads("b", 3)
        .due("4", "replace", 0, 1, 3).writes("g(f(b),g(b,b))", 4)
        .due("5", "replace", 0, 2, 1).writes("g(a,g(a,b))", 5)
        // Nothing is replaced inside what has been inserted.
        .due("6", "replace", 0, 1, 2).writes("g(f(f(a)),g(f(a),b))", 6)
        .due("2", "replace", 0, 0, 2).due("0", "replace", 0, 1, 1).due("0", "replace", 0, 6, 1)
        .due("7", "replace", 2, 1, 0).writes("f(g(f(a),g(a,b)))", 7)
        .refused(INDEX, "replace", 8, 0, 0).refused(INDEX, "replace", 0, 8, 0)
        .refused(INDEX, "replace", 0, 0, 8).refused(INDEX, "replace", -1, 0, 0)
        .refused(INDEX, "replace", 0, -1, 0).refused(INDEX, "replace", 0, 0, -1);
  }

  private static void replaceTooLarge() {
    Script s = signature("promise 22, too large");
    int a = ofSize(s, 1);
    int t31 = ofSize(s, 31);
    int t63 = ofSize(s, 63);
    int t30 = ofSize(s, 30);
    s.refused(ARITHMETIC, "replace", t31, a, t63);
    // 16 constants of size 30 and 15 symbols before them; 32 are more than 1000.
    s.due("" + (15 + 16 * 30), "size", s.answer("replace", t31, a, t30));
    int t61 = s.answer("replace", t31, a, ofSize(s, 61));
    s.due("" + (15 + 16 * 61), "size", t61);
    s.refused(ARITHMETIC, "replace", t31, a, ofSize(s, 62));
    int deep = ofDepth(s, 30);
    int deeper = ofDepth(s, 31);
    int most = s.answer("replace", deep, a, deeper);
    s.due("60", "depth", most).refused(ARITHMETIC, "replace", deeper, a, deeper);
    int t1000 = ofSize(s, 1000);
    s.refused(ARITHMETIC, "replace", t1000, a, t1000).due("" + t1000, "replace", t1000, a, a);
  }

  private static void write() {
    Script s = new Script("promise 23").symbol("a", 0).symbol("long5678", 3).symbol("f0", 1)
        .symbol("g", 2).variable("x");
    s.reads(" long5678 ( f0 ( a ) , g (\n x , a ) , a ) ", 0).reads("a", 1)
        .writes("long5678(f0(a),g(x,a),a)", 0).writes("a", 1)
        .refused(INDEX, "write", 2).refused(INDEX, "write", -1).outputs("a")
        .reads("f0(a)", 2).outputs("a").writes("f0(a)", 2);
  }

  private static void writeTooLong() {
    Script s = new Script("promise 23, too long").symbol("a", 0).symbol("abcdefgh", 0)
        .symbol("g", 2).symbol("f", 1).symbol("ff", 1);
    // With n constants, n - 1 symbols g and their signs: 8 n + 4 (n - 1) = 12 n - 4 bytes.
    int t = s.answer("term", 1, 0, 0, 0);
    int longest = t;
    for (int i = 1; i < 128; i *= 2) {
      longest = s.answer("term", 2, longest, longest, 0);
    }
    s.due("" + (12 * 128 - 4), "write", longest);
    int more = t;
    for (int i = 1; i < 32; i *= 2) {
      more = s.answer("term", 2, more, more, 0);
    }
    longest = s.answer("term", 2, longest, more, 0);
    s.due("" + (12 * 160 - 4), "write", longest);
    // 1916 bytes; 27 times f() make 1997 of them, f() then 2000 and ff() 2001.
    longest = s.chain(3, longest, 27);
    int small = s.answer("term", 0, 0, 0, 0);
    int most = s.answer("term", 3, longest, 0, 0);
    int over = s.answer("term", 4, longest, 0, 0);
    s.due("1997", "write", longest).due("2000", "write", most)
        .due("40", "outputByte", 55).due("103", "outputByte", 56).due("41", "outputByte", 1999)
        .refused(INDEX, "outputByte", 2000).refused(ARITHMETIC, "write", over)
        .due("41", "outputByte", 1999).writes("a", small).refused(ARITHMETIC, "write", over)
        .refused(ARITHMETIC, "write", s.answer("term", 3, most, 0, 0)).outputs("a");
  }

  private static void outputByte() {
    Script s = new Script("promise 24").symbol("f", 1).symbol("z9", 0);
    s.refused(INDEX, "outputByte", 0).reads("f(z9)", 0).refused(INDEX, "outputByte", 0)
        .due("5", "write", 0)
        .due("102", "outputByte", 0).due("40", "outputByte", 1).due("122", "outputByte", 2)
        .due("57", "outputByte", 3).due("41", "outputByte", 4)
        .refused(INDEX, "outputByte", 5).refused(INDEX, "outputByte", -1)
        .refused(INDEX, "outputByte", 2000);
  }
}
