import java.math.BigInteger;

/** Promises 42 to 47: classes of terms, patterns, and the digest. */
public final class ClassTest {
  private static final String INDEX = "IndexOutOfBoundsException";
  private static final String ARGUMENT = "IllegalArgumentException";
  private static final String ARITHMETIC = "ArithmeticException";
  private static final String ELEMENT = "NoSuchElementException";

  public static void main(String[] args) {
    countOfSize();
    countOfSizeOfDifferentArguments();
    countOfSizeLarge();
    countOfSizeInManyClasses();
    isFinite();
    smallest();
    smallestTooLarge();
    match();
    matchRefused();
    matchInOrder();
    matchDeepPattern();
    matchManySolutions();
    matchOneSolutionTooMany();
    solution();
    solutionTooLarge();
    digest();
    digestWrapsAround();
    Script.end("ClassTest");
  }

  private static Script signature(String name) {
    return new Script(name).symbol("a", 0).symbol("b", 0).symbol("c", 0).symbol("f", 1)
        .symbol("g", 2).variable("x").variable("y");
  }

  private static void countOfSize() {
    Script s = signature("promise 42").theory("a = b; g(a,a) = a;", 2)
        .reads("b", 0).reads("f(g(a,b))", 1).reads("c", 2).reads("g(x,c)", 3);
    // Of the class of a: a and b, then the binary trees with leaves a and b.
    long[] trees = {0, 2, 0, 4, 0, 16, 0, 80, 0, 448, 0, 2688, 0};
    for (int n = 1; n <= 12; n++) {
      s.due("" + trees[n], "countOfSize", 0, n).due("" + trees[n - 1], "countOfSize", 1, n)
          .due(n == 1 ? "1" : "0", "countOfSize", 2, n).due(n == 3 ? "1" : "0", "countOfSize", 3, n);
    }
    s.refused(ARGUMENT, "countOfSize", 0, 0).refused(ARGUMENT, "countOfSize", 0, 13)
        .refused(ARGUMENT, "countOfSize", 0, -1).refused(INDEX, "countOfSize", 4, 1)
        .refused(INDEX, "countOfSize", -1, 1).refused(INDEX, "countOfSize", 4, 0);
    Script h = new Script("promise 42, three arguments").symbol("a", 0).symbol("h", 3)
        .symbol("f", 1).theory("h(a,a,a) = a; f(a) = a;", 2).reads("a", 0);
    // T(n) = T(n-1) + the sum of T(i) T(j) T(k) for i + j + k = n - 1.
    long[] t = new long[13];
    t[1] = 1;
    for (int n = 2; n <= 12; n++) {
      t[n] = t[n - 1];
      for (int i = 1; i < n; i++) {
        for (int j = 1; i + j < n - 1; j++) {
          t[n] += t[i] * t[j] * t[n - 1 - i - j];
        }
      }
      h.due("" + t[n], "countOfSize", 0, n);
    }
  }

  private static void countOfSizeOfDifferentArguments() {
    Script s = new Script("promise 42, three different arguments").symbol("a", 0).symbol("b", 0)
        .symbol("c", 0).symbol("f", 1).symbol("u", 1).symbol("v", 1).symbol("g", 2).symbol("h", 3)
        .theory("f(a)=a; u(b)=b; v(b)=b; g(c,c)=c;", 4).reads("h(a,b,c)", 0).reads("g(a,c)", 1);
    // Of size n the class of a has 1 term, that of b 2^(n-1), and that of c the binary trees.
    long[] trees = {0, 1, 0, 1, 0, 2, 0, 5, 0, 14, 0, 42, 0};
    for (int n = 1; n <= 12; n++) {
      long triples = 0;
      long pairs = 0;
      for (int k = 1; k < n; k++) {
        pairs += n - 1 - k >= 1 ? trees[k] : 0;
        for (int j = 1; j + k < n - 1; j++) {
          triples += trees[k] << (j - 1);
        }
      }
      s.due("" + triples, "countOfSize", 0, n).due("" + pairs, "countOfSize", 1, n);
    }
  }

  private static void countOfSizeLarge() {
    Script s = new Script("promise 42, beyond an int");
    StringBuilder text = new StringBuilder();
    s.symbol("a", 0);
    for (int i = 1; i < 23; i++) {
      s.symbol("f" + i, 1);
      text.append("f").append(i).append("(a)=a;");
    }
    s.theory(text.toString(), 22).reads("a", 0);
    long count = 1;
    for (int n = 1; n <= 12; n++) {
      s.due("" + count, "countOfSize", 0, n);
      count *= 22;
    }
  }

  private static void countOfSizeInManyClasses() {
    // The class of c has terms of each size, too.
    signature("promise 42, other classes").theory("f(c) = c;", 1).reads("g(c,c)", 0)
        .due("10", "countOfSize", 0, 12).due("1", "countOfSize", 0, 3);
    Script s = new Script("promise 42, many classes").symbol("a", 0).symbol("c", 0).symbol("g", 2);
    for (int i = 3; i < 24; i++) {
      s.symbol("u" + i, 1);
    }
    StringBuilder text = new StringBuilder();
    for (int i = 0; i < 30; i++) {
      text.append("g(").append(threeDeep(i)).append(",").append(threeDeep(i + 7)).append(")=a;");
      if (i % 6 == 5) {
        s.theory(text.toString(), 6);
        text.setLength(0);
      }
    }
    s.reads("a", 0).reads("u3(a)", 1);
    for (int n = 1; n <= 12; n++) {
      s.due(n == 9 ? "30" : n == 1 ? "1" : "0", "countOfSize", 0, n)
          .due(n == 10 ? "30" : n == 2 ? "1" : "0", "countOfSize", 1, n);
    }
  }

  private static String threeDeep(int i) {
    return "u" + (3 + i % 21) + "(u" + (3 + i / 2 % 21) + "(u" + (3 + i % 5) + "(c)))";
  }

  private static void isFinite() {
    signature("promise 43").theory("a = b; f(c) = g(a,a); f(f(a)) = f(a); g(c,c) = a;", 4)
        .reads("a", 0).reads("c", 1).reads("f(c)", 2).reads("f(a)", 3).reads("g(f(b),x)", 4)
        .reads("g(x,f(c))", 5).reads("g(c,c)", 6)
        .due("1", "isFinite", 0).due("1", "isFinite", 1).due("1", "isFinite", 2)
        .due("0", "isFinite", 3).due("0", "isFinite", 4).due("1", "isFinite", 5)
        .due("1", "isFinite", 6)
        .refused(INDEX, "isFinite", 7).refused(INDEX, "isFinite", -1)
        .due("1", "push").theory("g(a,c) = c;", 1).due("0", "isFinite", 0).due("0", "isFinite", 1)
        .due("0", "isFinite", 2).due("0", "isFinite", 5).due("0", "pop").due("1", "isFinite", 0);
    signature("promise 43, by way of two classes").theory("f(a) = c; g(c,c) = a;", 2)
        .reads("a", 0).reads("c", 1).reads("b", 2).reads("f(b)", 3)
        .due("0", "isFinite", 0).due("0", "isFinite", 1).due("1", "isFinite", 2)
        .due("1", "isFinite", 3);
  }

  private static void smallest() {
    Script s = signature("promise 44").theory("f(f(f(a))) = c; g(a,c) = g(c,a); b = c;", 3)
        .reads("f(f(f(a)))", 0).due("1", "smallest", 0).writes("b", 1).due("1", "smallest", 1)
        .reads("g(b,f(a))", 2).due("2", "smallest", 2)
        .reads("g(c,a)", 3).due("4", "smallest", 3).writes("g(a,b)", 4)
        .reads("f(x)", 5).due("5", "smallest", 5)
        .refused(INDEX, "smallest", 6).refused(INDEX, "smallest", -1);
    // The normal form can be larger than the smallest term.
    Script path = new Script("promise 44, path").symbol("a", 0).symbol("f", 1).symbol("c", 0)
        .symbol("d", 0).symbol("e", 0).symbol("g", 2)
        .theory("f(f(a)) = c; c = d; e = f(a);", 3).reads("g(c,f(e))", 0)
        .due("1", "normalForm", 0).writes("g(f(f(a)),f(f(a)))", 1)
        .due("2", "smallest", 0).writes("g(c,c)", 2).due("2", "smallest", 1)
        .reads("f(f(f(a)))", 3).due("4", "smallest", 3).writes("f(c)", 4);
    path.due("0", "stepCount", 1);
    // By weight the least of the smallest need not be the lightest of the whole class.
    new Script("promise 44, weight").symbol("h", 1, 1).symbol("a", 0, 9).symbol("b", 0, 8)
        .symbol("c", 0, 1).due("0", "orderByWeight", 1)
        .theory("a = b; b = h(h(c));", 2).reads("h(a)", 0).due("1", "smallest", 0).writes("h(b)", 1)
        .due("2", "normalForm", 0).writes("h(h(h(c)))", 2);
    new Script("promise 44, from the right").symbol("a", 0).symbol("b", 0).symbol("g", 2)
        .due("0", "setDirection", 2, 1).theory("g(a,b) = g(b,a); g(g(a,b),a) = a;", 2)
        .reads("g(a,b)", 0).due("1", "smallest", 0).writes("g(b,a)", 1);
  }

  private static String chain(int length, String inner) {
    StringBuilder text = new StringBuilder();
    for (int i = 0; i < length; i++) {
      text.append("f(");
    }
    text.append(inner);
    for (int i = 0; i < length; i++) {
      text.append(')');
    }
    return text.toString();
  }

  private static void smallestTooLarge() {
    // A wide term of size 63 and depth 6 is equal to a chain of size and depth 40.
    Script s = new Script("promise 44, too large").symbol("a", 0).symbol("f", 1).symbol("g", 2);
    int wide = s.number("a");
    for (int i = 0; i < 5; i++) {
      wide = s.answer("term", 2, wide, wide, 0);
    }
    int deep = s.number(chain(39, "a"));
    s.due("63", "size", wide).due("40", "depth", deep).due("0", "equate", deep, wide);
    int t = wide;
    for (int i = 0; i < 20; i++) {
      t = s.answer("term", 1, t, 0, 0);
    }
    int chain60 = s.answer("smallest", t);
    s.due("60", "depth", chain60);
    t = s.answer("term", 1, t, 0, 0);
    s.refused(ARITHMETIC, "smallest", t);
  }

  private static void match() {
    Script s = signature("promise 45").theory("g(a,b) = c; g(b,c) = c; f(a) = b; f(b) = b;", 4)
        .reads("g(x,y)", 0).reads("c", 1).reads("a", 2).reads("b", 3);
    s.due("2", "match", 0, 1)
        .due("2", "solution", 0, 5).due("3", "solution", 0, 6)
        .due("3", "solution", 1, 5).due("1", "solution", 1, 6);
    // The variable that occurs twice, in classes that are not the same.
    s.reads("g(x,x)", 4).due("0", "match", 4, 1).reads("f(x)", 5).due("2", "match", 5, 3)
        .due("2", "solution", 0, 5).due("3", "solution", 1, 5)
        .reads("g(f(x),x)", 6).due("0", "match", 6, 1)
        .reads("g(x,f(x))", 7).due("1", "match", 7, 1).due("2", "solution", 0, 5)
        .reads("g(f(x),g(y,f(y)))", 8).due("2", "match", 8, 1)
        .due("2", "solution", 0, 5).due("2", "solution", 0, 6)
        .due("3", "solution", 1, 5).due("2", "solution", 1, 6)
        // A pattern that is a variable, one without any, and one that only stands for t itself.
        .reads("x", 9).due("1", "match", 9, 1).due("1", "solution", 0, 5)
        .refused(ELEMENT, "solution", 0, 6)
        .reads("g(f(a),c)", 10).due("1", "match", 10, 1).refused(ELEMENT, "solution", 0, 5)
        .due("0", "match", 10, 2).refused(INDEX, "solution", 0, 5)
        .reads("g(f(x),f(y))", 11).reads("g(f(c),f(f(c)))", 12).due("1", "match", 11, 12)
        .due("1", "solution", 0, 5).due("13", "solution", 0, 6).writes("f(c)", 13)
        .reads("g(a,a)", 14).due("1", "match", 0, 14).due("2", "solution", 0, 5);
    // The normal form is assigned, not the term that stands there.
    s.reads("g(f(b),f(a))", 15).due("1", "match", 4, 15).due("3", "solution", 0, 5);
    // The variable with the smallest number decides first, wherever it stands in the pattern.
    s.reads("g(y,x)", 16).due("2", "match", 16, 1)
        .due("3", "solution", 0, 5).due("2", "solution", 0, 6)
        .due("1", "solution", 1, 5).due("3", "solution", 1, 6);
  }

  private static void matchRefused() {
    Script s = signature("promise 45, refused").theory("f(a) = a;", 1)
        .reads("f(x)", 0).reads("a", 1).due("1", "match", 0, 1);
    s.reads("g(g(g(a,a),g(a,a)),f(f(g(x,a))))", 2).due("13", "size", 2)
        .reads("g(g(g(a,a),g(a,a)),f(g(x,a)))", 3).due("12", "size", 3);
    s.refused(INDEX, "match", 4, 1).refused(INDEX, "match", 0, 4).refused(INDEX, "match", -1, 1)
        .refused(INDEX, "match", 0, -1).refused(INDEX, "match", 2, 4)
        .refused(ARGUMENT, "match", 0, 0).refused(ARGUMENT, "match", 2, 1)
        .refused(ARGUMENT, "match", 1, 3)
        // The solutions are those of the latest successful call.
        .due("1", "solution", 0, 5).due("0", "match", 3, 1).refused(INDEX, "solution", 0, 5);
    s.reads("g(g(g(a,a),g(a,a)),f(g(f(a),a)))", 4).due("1", "match", 3, 4)
        .due("1", "solution", 0, 5);
  }

  /** Functions u, v and w with 5, 10 and 10 arguments that make them equal to a. */
  private static void matchManySolutions() {
    Script s = new Script("promise 45, many solutions");
    for (int i = 0; i < 11; i++) {
      s.symbol("" + (char) ('a' + i), 0);
    }
    s.symbol("u", 1).symbol("v", 1).symbol("w", 1).symbol("p3", 3).variable("x").variable("y")
        .variable("z");
    StringBuilder text = new StringBuilder();
    for (int i = 0; i < 10; i++) {
      char constant = (char) ('b' + i);
      text.append(i < 5 ? "u(" + constant + ")=a;" : "");
      text.append("v(").append(constant).append(")=a;w(").append(constant).append(")=a;");
    }
    s.theory(text.toString(), 25).reads("p3(u(x),v(y),w(z))", 0).reads("p3(a,a,a)", 1)
        .due("500", "match", 0, 1);
    for (int k : new int[] {0, 1, 10, 99, 100, 255, 499}) {
      s.writes("" + (char) ('b' + k / 100), s.answer("solution", k, 15))
          .writes("" + (char) ('b' + k / 10 % 10), s.answer("solution", k, 16))
          .writes("" + (char) ('b' + k % 10), s.answer("solution", k, 17));
    }
    s.refused(INDEX, "solution", 500, 15).refused(INDEX, "solution", -1, 15);
    String before = s.ask("solution", 499, 17);
    s.theory("u(g) = a;", 1).refused(ARITHMETIC, "match", 0, 1).due(before, "solution", 499, 17)
        .refused(INDEX, "solution", 500, 15);
  }

  /** As many as before by one shape of the term, and by another one as many as w has arguments. */
  private static void matchOneSolutionTooMany() {
    Script s = new Script("promise 45, more than 500 solutions");
    for (int i = 0; i < 13; i++) {
      s.symbol("" + (char) ('a' + i), 0);
    }
    s.symbol("u", 1).symbol("v", 1).symbol("w", 1).symbol("p3", 3).variable("x").variable("y")
        .variable("z");
    StringBuilder text = new StringBuilder();
    for (int i = 0; i < 10; i++) {
      char constant = (char) ('b' + i);
      text.append(i < 5 ? "u(" + constant + ")=a;" : "");
      text.append("v(").append(constant).append(")=a;w(").append(constant).append(")=a;");
    }
    s.theory(text.toString(), 25).theory("p3(l,l,l)=p3(a,a,a);u(m)=l;v(m)=l;", 3)
        .reads("p3(u(x),v(y),w(z))", 0).reads("p3(a,a,a)", 1).due("500", "match", 0, 1);
    int z = s.answer("solution", 499, 19);
    s.writes("k", z).due("1", "push").theory("w(m)=l;", 1).refused(ARITHMETIC, "match", 0, 1)
        .due("" + z, "solution", 499, 19).refused(INDEX, "solution", 500, 19)
        .due("0", "pop").due("500", "match", 0, 1);
  }

  /** The order of the rules is another one than that of the solutions. */
  private static void matchInOrder() {
    Script s = signature("promise 45, in ascending order")
        .theory("g(a,c) = f(a); g(b,b) = f(a); g(c,a) = f(a); g(a,a) = f(a); g(b,a) = f(a);", 5)
        .reads("a", 0).reads("b", 1).reads("c", 2).reads("g(y,x)", 3).reads("f(a)", 4)
        .due("5", "match", 3, 4);
    int[][] due = {{0, 0}, {0, 1}, {0, 2}, {1, 1}, {2, 0}};
    for (int k = 0; k < 5; k++) {
      s.due("" + due[k][0], "solution", k, 5).due("" + due[k][1], "solution", k, 6);
    }
    // From the right and with another precedence, b before c before a.
    Script r = signature("promise 45, in ascending order of another order").due("0", "promote", 0, 2)
        .due("0", "setDirection", 4, 1)
        .theory("g(a,c) = f(a); g(b,b) = f(a); g(c,a) = f(a); g(a,a) = f(a); g(b,a) = f(a);", 5)
        .reads("a", 0).reads("b", 1).reads("c", 2).reads("g(y,x)", 3).reads("f(a)", 4)
        .due("5", "match", 3, 4);
    due = new int[][] {{1, 1}, {2, 0}, {0, 1}, {0, 2}, {0, 0}};
    for (int k = 0; k < 5; k++) {
      r.due("" + due[k][0], "solution", k, 5).due("" + due[k][1], "solution", k, 6);
    }
  }

  private static void matchDeepPattern() {
    Script s = signature("promise 45, the deepest patterns").theory("f(f(f(a))) = a;", 1);
    int twelve = s.number(chain(11, "x"));
    int thirteen = s.number(chain(12, "x"));
    int a = s.number("a");
    s.due("12", "size", twelve).due("13", "size", thirteen).refused(ARGUMENT, "match", thirteen, a)
        // Eleven and one are a multiple of three.
        .due("1", "match", twelve, a).writes("f(a)", s.answer("solution", 0, 5))
        .due("0", "match", twelve, s.number("b"))
        .due("1", "match", twelve, s.number(chain(11, "b"))).writes("b", s.answer("solution", 0, 5))
        .due("1", "match", s.number("g(x,g(y,g(x,g(y,g(x,y)))))"), s.number("g(a,g(b,g(a,g(b,g(a,b)))))"))
        .due("" + a, "solution", 0, 5).writes("b", s.answer("solution", 0, 6))
        .due("0", "match", s.number("g(x,g(y,g(x,g(y,g(x,f(y))))))"), a)
        .refused(ARGUMENT, "match", s.number("g(x,g(y,g(x,g(y,g(x,g(y,a))))))"), a);
  }

  private static void solution() {
    Script s = signature("promise 46").theory("g(a,b) = c; f(c) = c;", 2)
        .refused(INDEX, "solution", 0, 5)
        .reads("g(y,b)", 0).reads("c", 1).due("1", "match", 0, 1)
        .due("2", "solution", 0, 6).writes("a", 2).due("2", "solution", 0, 6).due("3", "termCount")
        .refused(ELEMENT, "solution", 0, 5).refused(ELEMENT, "solution", 0, 0)
        .refused(ELEMENT, "solution", 0, 4)
        .refused(INDEX, "solution", 1, 6).refused(INDEX, "solution", -1, 6)
        .refused(INDEX, "solution", 0, 7).refused(INDEX, "solution", 0, -1)
        .refused(INDEX, "solution", 1, 5).refused(INDEX, "solution", 1, 7);
    // A variable that is declared later does not occur in the pattern.
    s.variable("z").refused(ELEMENT, "solution", 0, 7);
    // Solutions are kept, whatever happens to the theory.
    s.due("1", "push").theory("a = b;", 1).due("2", "solution", 0, 6).due("0", "pop")
        .due("2", "solution", 0, 6);
    signature("promise 46, a term without a number").theory("g(f(a),b) = c;", 1)
        .reads("g(x,b)", 0).reads("c", 1).due("1", "match", 0, 1).due("2", "termCount")
        .due("1", "push").theory("a = b;", 1).due("0", "pop")
        .due("2", "solution", 0, 5).writes("f(a)", 2).due("3", "termCount");
  }

  private static void solutionTooLarge() {
    Script s = new Script("promise 46, too large").symbol("a", 0).symbol("f", 1).symbol("t", 0)
        .symbol("g", 2).variable("x").theory("t = " + chain(39, "a") + ";", 1)
        .reads("g(x,a)", 0);
    int deep = s.number("g(" + chain(21, "t") + ",a)");
    int pattern = 0;
    s.due("1", "match", pattern, deep).refused(ARITHMETIC, "solution", 0, 4)
        .refused(INDEX, "solution", 1, 4).refused(ELEMENT, "solution", 0, 0);
    int less = s.number("g(" + chain(20, "t") + ",a)");
    s.due("1", "match", pattern, less).due("60", "depth", s.answer("solution", 0, 4));
  }

  private static void digest() {
    Script s = new Script("promise 47").symbol("a", 0).symbol("b", 0).symbol("f", 1).variable("x");
    s.due("2", "promote", 2, 0);
    expectDigest(s, 4, 1, 2, 0, 3, 0, 0, 0, 0, 0);
    s.theory("f(f(a)) = f(b); a != b; b != a;", 3).due("1", "push").due("2", "push")
        .reads("f(f(x))", 0).reads("x", 1).reads("a", 2);
    // f < a < b: f(b) is greater than f(f(a)).
    expectDigest(s, 4, 1, 2, 0, 3, 3, 1, 2, 2, 1, 2, 3);
    s.theory("b = f(a);", 1);
    expectDigest(s, 4, 1, 2, 0, 3, 3, 2, 2, 2, 1, 1, 2);
    s.due("1", "pop").due("0", "pop");
    expectDigest(s, 4, 1, 2, 0, 3, 3, 1, 2, 0, 1, 2, 3);
    StringBuilder many = new StringBuilder();
    for (int i = 0; i < 24; i++) {
      many.append("a!=b;");
    }
    s.theory(many.toString(), 24);
    expectDigest(s, 4, 1, 2, 0, 3, 3, 1, 26, 0, 1, 2, 3);
  }

  /** Computed without a bound, and brought into the range of a long at the end. */
  private static void digestWrapsAround() {
    Script s = new Script("promise 47, which wraps around");
    for (int i = 0; i < 24; i++) {
      s.symbol("n" + i, 0);
      BigInteger d = BigInteger.valueOf(17).multiply(BigInteger.valueOf(31)).add(BigInteger.valueOf(i + 1));
      for (int rank = 0; rank <= i; rank++) {
        d = d.multiply(BigInteger.valueOf(31)).add(BigInteger.valueOf(rank));
      }
      for (int k = 0; k < 5; k++) {
        d = d.multiply(BigInteger.valueOf(31));
      }
      s.due("" + d.longValue(), "digest");
    }
  }

  private static void expectDigest(Script s, long... numbers) {
    long d = 17;
    for (long x : numbers) {
      d = d * 31 + x;
    }
    s.due("" + d, "digest");
  }
}
