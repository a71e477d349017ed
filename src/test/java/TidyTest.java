import java.util.ArrayList;
import java.util.List;

/**
 * What is left of terms that nobody needs is dropped when there is much of it; whatever is still
 * needed, with or without a number, has to outlive that.
 */
public final class TidyTest {
  private static final String ARITHMETIC = "ArithmeticException";

  private static int large;
  private static int side;
  private static int rounds;

  public static void main(String[] args) {
    statementsAndRules();
    rulesUnlikeEquations();
    equationsWithoutRules();
    solutions();
    solutionsWithMoreVariables();
    termsInTheirPlaces();
    numbers();
    Script.end("TidyTest");
  }

  /** Symbols 0 to 2 are constants, 3 to 10 have one argument, 11 has two, 12 is a variable. */
  private static Script signature(String name) {
    Script s = new Script(name);
    for (int i = 0; i < 12; i++) {
      s.symbol("" + (char) ('a' + i), i < 3 ? 0 : i < 11 ? 1 : 2);
    }
    return s.variable("x");
  }

  private static void growTerms(Script s) {
    int[] constants = {s.number("a"), s.number("b"), s.number("c")};
    large = s.number("l(a,l(b,c))");
    for (int i = 0; i < 6; i++) {
      int shifted = large;
      for (int constant : constants) {
        shifted = s.answer("replace", shifted, constant, s.answer("term", 3 + i, constant, 0, 0));
      }
      large = s.answer("term", 11, large, shifted, 0);
    }
    side = large;
    while (s.answer("size", side) > 150) {
      side = s.answer("argument", side, 0);
    }
    rounds = 0;
  }

  /** Each round makes more than a hundred subterms of a term that is too large. */
  private static void makeGarbage(Script s, int count) {
    int constant = s.answer("term", 0, 0, 0, 0);
    for (int i = 0; i < count; i++) {
      if (rounds % 24 == 0) {
        side = s.answer("term", 3 + rounds / 24 % 8, side, 0, 0);
      }
      int other = s.answer("term", 3 + rounds % 8, s.answer("term", rounds / 8 % 3, 0, 0, 0), 0, 0);
      int inner = s.answer("term", 11, side, other, 0);
      s.due("throws " + ARITHMETIC, "replace", large, constant, inner);
      rounds++;
    }
  }

  private static void statementsAndRules() {
    Script s = signature("statements and rules")
        .theory("d(e(a)) = b; f(b) = g(c); g(g(c)) = c; d(d(b)) != h(c); e(e(a)) != e(e(c));", 5)
        .due("1", "push").theory("h(f(b)) = d(d(b)); i(c) != i(a); a = c;", 3).due("1", "conflict");
    growTerms(s);
    makeGarbage(s, 60);
    s.due("1", "conflict").due("5", "ruleCount");
    String[] lefts = {"c", "d(e(a))", "g(g(a))", "f(b)", "h(f(b))"};
    String[] rights = {"a", "b", "a", "g(a)", "d(d(b))"};
    for (int i = 0; i < 5; i++) {
      int left = s.number(lefts[i]);
      s.due("1", "areEqual", left, s.number(rights[i]));
    }
    s.due("0", "pop").due("1", "isConsistent").due("3", "ruleCount");
    int first = s.number("f(d(e(a)))");
    int second = s.number("g(c)");
    s.due("1", "dependsOn", first, second, 0).due("1", "dependsOn", first, second, 1)
        .due("0", "dependsOn", first, second, 2).due("1", "stepCount", first)
        .theory("e(a) = e(c);", 1).due("1", "conflict");
  }

  /** Terms of equations that are in no rule, and right sides that are in no equation. */
  private static void rulesUnlikeEquations() {
    Script s = signature("rules unlike equations")
        .theory("d(d(d(a))) = a; a = d(d(d(d(d(a))))); i(e(b)) = h(g(b)); c = b;", 4)
        .theory("k(c) = f(c); e(c) = g(c);", 2).due("1", "push").theory("a = j(b);", 1)
        .due("6", "ruleCount");
    growTerms(s);
    makeGarbage(s, 60);
    int da = s.number("d(a)");
    s.due("1", "dependsOn", da, 0, 0).due("1", "dependsOn", da, 0, 1).due("0", "dependsOn", da, 0, 2)
        .writes("f(b)", s.answer("normalForm", s.number("k(c)")))
        .writes("h(e(b))", s.answer("normalForm", s.number("i(g(c))")))
        .due("0", "pop").due("5", "ruleCount").due("1", "areEqual", da, 0)
        .writes("e(b)", s.answer("normalForm", s.number("g(c)")))
        .due("1", "dependsOn", s.number("e(b)"), s.number("g(b)"), 5);
  }

  /** Terms of equations that are in no rule until a level is closed. */
  private static void equationsWithoutRules() {
    Script s = signature("equations without rules").theory("k(k(a)) = a; a = j(j(b));", 2)
        .due("1", "push").theory("k(a) = a; j(b) = a; j(a) = a;", 3).due("3", "ruleCount");
    growTerms(s);
    makeGarbage(s, 60);
    s.due("0", "pop").due("2", "ruleCount");
    s.writes("j(j(b))", s.answer("ruleLeft", 0)).writes("a", s.answer("ruleRight", 0))
        .writes("k(k(a))", s.answer("ruleLeft", 1)).writes("a", s.answer("ruleRight", 1));
  }

  private static void solutions() {
    Script s = signature("solutions").due("1", "push")
        .theory("l(d(d(a)),e(e(b))) = c; l(h(h(a)),d(d(a))) = c;", 2);
    int pattern = s.number("l(x,d(d(a)))");
    int t = s.number("c");
    s.due("1", "match", pattern, t).due("0", "pop");
    growTerms(s);
    makeGarbage(s, 60);
    s.writes("h(h(a))", s.answer("solution", 0, 12));
  }

  private static void solutionsWithMoreVariables() {
    Script s = signature("solutions with three variables").variable("y").variable("z").due("1", "push")
        .theory("l(d(d(a)),l(e(e(b)),f(f(c)))) = c; l(g(g(a)),l(i(i(b)),j(j(c)))) = c;", 2);
    int pattern = s.number("l(x,l(y,z))");
    int t = s.number("c");
    s.due("2", "match", pattern, t).due("0", "pop");
    growTerms(s);
    makeGarbage(s, 60);
    String[] due = {"d(d(a))", "e(e(b))", "f(f(c))", "g(g(a))", "i(i(b))", "j(j(c))"};
    for (int i = 0; i < 6; i++) {
      s.writes(due[i], s.answer("solution", i / 3, 12 + i % 3));
    }
  }

  /** Terms that are made between those that are dropped, and so in their places. */
  private static void termsInTheirPlaces() {
    Script s = signature("terms in the places of others");
    growTerms(s);
    List<String> texts = new ArrayList<>();
    List<Integer> numbers = new ArrayList<>();
    for (int i = 0; i < 150; i++) {
      makeGarbage(s, 1);
      String text = "l(" + "d(".repeat(i % 7) + "e(f(b))" + ")".repeat(i % 7) + ",l(" + "g(".repeat(i / 7)
          + "x" + ")".repeat(i / 7) + ",h(i(c))))";
      texts.add(text);
      numbers.add(s.number(text));
    }
    for (int i = 0; i < texts.size(); i++) {
      s.writes(texts.get(i), numbers.get(i)).text(texts.get(i)).due("" + numbers.get(i), "read")
          .due("" + (9 + i % 7 + i / 7), "size", numbers.get(i));
    }
  }

  private static void numbers() {
    Script s = signature("numbers");
    int first = s.number("l(d(d(a)),l(e(e(b)),x))");
    growTerms(s);
    makeGarbage(s, 60);
    s.due("" + first, "replace", first, first, first).writes("l(d(d(a)),l(e(e(b)),x))", first);
    int inner = s.answer("argument", first, 1);
    s.writes("l(e(e(b)),x)", inner).due("5", "size", inner).due("4", "depth", inner);
  }
}
