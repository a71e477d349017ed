/** Promises 12 to 14: reading of texts, and the kinds and positions of errors. */
public final class TextTest {
  private static final int FORM = 1;
  private static final int UNKNOWN = 2;
  private static final int VARIABLE = 3;
  private static final int INSIDE = 4;
  private static final int ARITY = 5;

  public static void main(String[] args) {
    read();
    wrongForm();
    wrongFormOfTheory();
    unknownNames();
    variables();
    tooManyParentheses();
    wrongArities();
    errorKindAndPosition();
    Script.end("TextTest");
  }

  private static Script signature(String name) {
    return new Script(name).symbol("a", 0).symbol("f", 1).symbol("g", 2).symbol("h", 3)
        .variable("x").symbol("ab1", 0);
  }

  private static void read() {
    Script s = signature("promise 12");
    s.reads("a", 0).reads("\n  f\n(\n a )\n", 1).reads("h(g(a,x),ab1,f(f(a)))", 2)
        .due("3", "term", 4, 0, 0, 0)
        .text("g ( a , x ) ").due("4", "read").due("2", "size", 1).due("8", "size", 2)
        .writes("h(g(a,x),ab1,f(f(a)))", 2)
        .text("f(a)").due("1", "read").due("5", "termCount");
    s.text("  ").refusedText("IllegalArgumentException", "read");
    // 400 bytes: a term in the middle of blanks, and one as long as the buffer.
    StringBuilder blanks = new StringBuilder();
    for (int i = 0; i < 399; i++) {
      blanks.append(i % 3 == 0 ? '\n' : ' ');
    }
    s.text(blanks.substring(0, 200) + "a" + blanks.substring(200)).due("0", "read");
    s.error(blanks + " ", "read", FORM, 400);
    s.text(nested(59, "a")).due("5", "read").due("60", "depth", 5).due("60", "size", 5);
  }

  private static String nested(int times, String inner) {
    StringBuilder text = new StringBuilder();
    for (int i = 0; i < times; i++) {
      text.append("f(");
    }
    text.append(inner);
    for (int i = 0; i < times; i++) {
      text.append(')');
    }
    return text.toString();
  }

  private static void wrongForm() {
    Script s = signature("kind 1");
    s.error("", "read", FORM, 0);
    s.error(" \n", "read", FORM, 2);
    s.error("1", "read", FORM, 0);
    s.error(" A", "read", FORM, 1);
    s.error("(a)", "read", FORM, 0);
    s.error(",", "read", FORM, 0);
    s.error(";", "read", FORM, 0);
    s.error("a b", "read", FORM, 2);
    s.error("a a", "read", FORM, 2);
    s.error("a,", "read", FORM, 1);
    s.error("a)", "read", FORM, 1);
    s.error("a;", "read", FORM, 1);
    s.error("a =a", "read", FORM, 2);
    s.error("a!", "read", FORM, 1);
    s.error("aA", "read", FORM, 1);
    s.error("f(", "read", FORM, 2);
    s.error("f( ", "read", FORM, 3);
    s.error("f()", "read", FORM, 2);
    s.error("f(,", "read", FORM, 2);
    s.error("f((", "read", FORM, 2);
    s.error("f(a", "read", FORM, 3);
    s.error("f(a ", "read", FORM, 4);
    s.error("f(a;", "read", FORM, 3);
    s.error("f(a(", "read", ARITY, 2);
    s.error("f(a a", "read", FORM, 4);
    s.error("f(a))", "read", FORM, 4);
    s.error("f(a)(", "read", FORM, 4);
    s.error("f(a) f", "read", FORM, 5);
    s.error("g(a,)", "read", FORM, 4);
    s.error("g(a,", "read", FORM, 4);
    s.error("g(a,,a)", "read", FORM, 4);
    s.error("g(a a)", "read", FORM, 4);
    s.error("g(a;a)", "read", FORM, 3);
    s.error("a\t", "read", FORM, 1);
    s.error("a\r\n", "read", FORM, 1);
    s.error("a\u0000", "read", FORM, 1);
    s.error("\u0000", "read", FORM, 0);
    s.error("\u00e1", "read", FORM, 0);
    s.error("a\u00ff", "read", FORM, 1);
    s.error("_a", "read", FORM, 0);
    s.error("`", "read", FORM, 0);
    s.error("{", "read", FORM, 0);
  }

  private static void wrongFormOfTheory() {
    Script s = signature("kind 1 of a theory");
    s.theory("", 0).theory("\n \n", 0).theory("a=a;", 1).theory(" a = f ( a ) ; a!=a; ", 2);
    s.error("a", "readTheory", FORM, 1);
    s.error("a ", "readTheory", FORM, 2);
    s.error("a;", "readTheory", FORM, 1);
    s.error("a a", "readTheory", FORM, 2);
    s.error("a =", "readTheory", FORM, 3);
    s.error("a = ", "readTheory", FORM, 4);
    s.error("a = ;", "readTheory", FORM, 4);
    s.error("a = a", "readTheory", FORM, 5);
    s.error("a = a a", "readTheory", FORM, 6);
    s.error("a = a = a;", "readTheory", FORM, 6);
    s.error("a = a,", "readTheory", FORM, 5);
    s.error("a == a;", "readTheory", FORM, 3);
    s.error("a !", "readTheory", FORM, 3);
    s.error("a ! = a;", "readTheory", FORM, 3);
    s.error("a !a", "readTheory", FORM, 3);
    s.error("a !\n", "readTheory", FORM, 3);
    s.error("a != ", "readTheory", FORM, 5);
    s.error("a !== a;", "readTheory", FORM, 4);
    s.error("a != != a;", "readTheory", FORM, 5);
    s.error("= a;", "readTheory", FORM, 0);
    s.error("a = a;;", "readTheory", FORM, 6);
    s.error("a = a; 1", "readTheory", FORM, 7);
    s.error("a = a; a != f(a", "readTheory", FORM, 15);
    s.error("f(a = a;", "readTheory", FORM, 4);
    s.error("f(a) = a, a = a;", "readTheory", FORM, 8);
    s.error("a = a\u00ff", "readTheory", FORM, 5);
    s.due("2", "equationCount").due("1", "separationCount");
  }

  private static void unknownNames() {
    Script s = signature("kind 2");
    s.error("b", "read", UNKNOWN, 0);
    s.error("  ab", "read", UNKNOWN, 2);
    s.error("ab1a", "read", UNKNOWN, 0);
    s.error("ab11", "read", UNKNOWN, 0);
    s.error("a1", "read", UNKNOWN, 0);
    s.error("abcdefghij", "read", UNKNOWN, 0);
    s.error("f(b)", "read", UNKNOWN, 2);
    s.error("f( b(", "read", UNKNOWN, 3);
    s.error("g(a,b", "read", UNKNOWN, 4);
    // Found before anything behind the name is looked at.
    s.error("b#", "read", UNKNOWN, 0);
    s.error("b)", "read", UNKNOWN, 0);
    s.error("bB", "read", UNKNOWN, 0);
    s.error("f(a,b)", "read", ARITY, 0);
    s.error("a = a; b = a;", "readTheory", UNKNOWN, 7);
    s.error("a = b", "readTheory", UNKNOWN, 4);
    s.error("a b", "readTheory", FORM, 2);
    s.symbol("b", 0).text("b").due("0", "read");
  }

  private static void variables() {
    Script s = signature("kind 3");
    s.error("x = a;", "readTheory", VARIABLE, 0);
    s.error("a != f(x);", "readTheory", VARIABLE, 7);
    s.error("a = a; g(a, x", "readTheory", VARIABLE, 12);
    s.error("x(", "readTheory", VARIABLE, 0);
    s.error("x#", "readTheory", VARIABLE, 0);
    s.error("xx = a;", "readTheory", UNKNOWN, 0);
    s.error(nested(60, "x") + "=a;", "readTheory", VARIABLE, 120);
    s.text("f(x)").due("0", "read").error("x(", "read", ARITY, 0);
    s.due("0", "equationCount").due("0", "separationCount");
  }

  private static void tooManyParentheses() {
    Script s = signature("kind 4");
    s.error(nested(60, "a"), "read", INSIDE, 120);
    s.error(nested(61, "a"), "read", INSIDE, 120);
    s.error(nested(60, "b"), "read", UNKNOWN, 120);
    s.error(nested(60, "x"), "read", INSIDE, 120);
    s.error(nested(60, "a("), "read", INSIDE, 120);
    s.error(nested(60, "f"), "read", INSIDE, 120);
    s.error(nested(60, ""), "read", FORM, 120);
    s.error(nested(59, "a") + ")", "read", FORM, 178);
    s.error(nested(59, "a("), "read", ARITY, 118);
    s.error(nested(60, "a") + "=a;", "readTheory", INSIDE, 120);
    s.error("a = " + nested(60, "a"), "readTheory", INSIDE, 124);
    // Pairs that are closed again do not count.
    s.text("g(" + nested(58, "a") + "," + nested(58, "a") + ")").due("0", "read")
        .due("60", "depth", 0);
    s.error("g(" + nested(58, "a") + "," + nested(59, "a") + ")", "read", INSIDE, 296);
    s.theory(nested(59, "a") + " != a;", 1);
  }

  private static void wrongArities() {
    Script s = signature("kind 5");
    s.error("a(", "read", ARITY, 0);
    s.error("a \n(a)", "read", ARITY, 0);
    s.error("x(a)", "read", ARITY, 0);
    s.error(" a ()", "read", ARITY, 1);
    s.error("f", "read", ARITY, 0);
    s.error("f ", "read", ARITY, 0);
    s.error(" f a", "read", ARITY, 1);
    s.error("f#", "read", ARITY, 0);
    s.error("f)", "read", ARITY, 0);
    s.error("fA", "read", ARITY, 0);
    s.error("f(f)", "read", ARITY, 2);
    s.error("f(f,", "read", ARITY, 2);
    s.error("f(a,", "read", ARITY, 0);
    s.error("f(a ,a)", "read", ARITY, 0);
    s.error("f(f(a),", "read", ARITY, 0);
    s.error("f(f(a,", "read", ARITY, 2);
    s.error("g(a)", "read", ARITY, 0);
    s.error("g(a )", "read", ARITY, 0);
    s.error("g(a,a,", "read", ARITY, 0);
    s.error("g(a,a,a)", "read", ARITY, 0);
    s.error("h(a)", "read", ARITY, 0);
    s.error("h(a,g(a,a),a,a)", "read", ARITY, 0);
    s.error("h(a,g(a),a)", "read", ARITY, 4);
    s.error("h(a,g(a,a))", "read", ARITY, 0);
    s.error("h(a,a", "read", FORM, 5);
    s.error("h(a,a;", "read", FORM, 5);
    s.error("f = a;", "readTheory", ARITY, 0);
    s.error("a = f;", "readTheory", ARITY, 4);
    s.error("a = f", "readTheory", ARITY, 4);
    s.error("a = a(a);", "readTheory", ARITY, 4);
    s.error("a != g(a);", "readTheory", ARITY, 5);
    s.error("f(a)=g(a,a,a);", "readTheory", ARITY, 5);
    s.error("f(a!", "readTheory", FORM, 3);
  }

  private static void errorKindAndPosition() {
    Script s = signature("promises 13 and 14");
    s.due("0", "errorKind").due("-1", "errorPosition");
    s.error("f(b)", "read", UNKNOWN, 2);
    // Other calls leave them as they are, also those that use the input buffer.
    s.text("ok").due("6", "declare", 0, 1).text("OK").refusedText("IllegalArgumentException", "declareVariable")
        .due("2", "errorKind").due("2", "errorPosition");
    s.text("a").due("0", "read").due("0", "errorKind").due("-1", "errorPosition");
    s.error("a=a", "readTheory", FORM, 3);
    s.theory("a=a;", 1).due("0", "errorKind").due("-1", "errorPosition");
    s.error("a", "readTheory", FORM, 1);
    StringBuilder many = new StringBuilder();
    for (int i = 0; i < 30; i++) {
      many.append("a=a;");
    }
    // This text has no error, though its equations are too many.
    s.text(many.toString()).refusedText("IllegalStateException", "readTheory")
        .due("0", "errorKind").due("-1", "errorPosition");
  }
}
