import java.util.ArrayList;
import java.util.List;

/**
 * The sentences of the description about texts that name a boundary, in the order of the document; and
 * all short texts, the beginnings of longer ones and many with a wrong byte, each compared with what
 * TextRules finds in it.
 */
public final class DescriptionTextsTest {
  private static final String ARGUMENT = "IllegalArgumentException";
  private static final String STATE = "IllegalStateException";
  private static final String ARITHMETIC = "ArithmeticException";
  private static final int FORM = 1;
  private static final int UNKNOWN = 2;
  private static final int VARIABLE = 3;
  private static final int INSIDE = 4;
  private static final int ARITY = 5;

  private static final String[] NAMES = {"a", "f", "g", "h", "x", "ab1", "z"};
  private static final int[] ARITIES = {0, 1, 2, 3, 0, 0, 0};
  private static final int FIRST_VARIABLE = 4;
  private static final String[] TERMS = {
    "a", "x", "ab1", "f(a)", "g(a,x)", "h(a,f(ab1),g(x,a))", " f\n( g ( ab1 , a ) ) ",
    "h(h(a,a,a),f(f(f(a))),x)", "g(f(a) , f(z))", "zz", "f(x1)", "g(a)", "h(a,a)", "f(a,a)",
    "f".repeat(9) + "(a)", "f", "g(f,a)", "a(a)", "f()", "f(a b)", "ab1 (", "\n\n a \n"
  };
  private static final String[] THEORIES = {
    "", "a=a;", "a!=f(a);", " f ( a ) = g(a,a) ; ab1 != a;\n", "a=b;", "x=a;", "a=f(x);", "a=a;a=a",
    "a = a ; g(a) = a;", "f(a) = z;", "h(a,a,a)=h(ab1,f(a),a);a!=a;a=a;", "a=f(a,a);", "a!a;", "a==a;"
  };

  private static GroundProver prover;
  private static int textCount;
  private static int wrong;

  public static void main(String[] args) {
    mostBytes();
    whatUsesTheBuffer();
    longestNames();
    blanks();
    tooEarlyEnds();
    inTheOrderOfReading();
    parentheses();
    shortTexts("", 5);
    beginningsAndWrongBytes();
    deepTexts();
    if (wrong > 0) {
      System.out.println("texts that are read in another way than TextRules says: " + wrong);
      System.exit(1);
    }
    System.out.println("texts compared with TextRules: " + textCount);
    Script.end("DescriptionTextsTest");
  }

  private static Script signature(String name) {
    Script s = new Script(name);
    for (int i = 0; i < NAMES.length; i++) {
      if (i < FIRST_VARIABLE || i == 5) {
        s.symbol(NAMES[i], ARITIES[i]);
      } else {
        s.variable(NAMES[i]);
      }
    }
    return s;
  }

  private static void mostBytes() {
    Script s = signature("at most 400 bytes of input");
    for (int i = 1; i <= 20; i++) {
      s.due("" + 20 * i, "feed", 0x20202020, 0x20202020, 0x20202020, 0x20202020, 0x20202061);
    }
    s.refused(STATE, "feed", 0, 0, 0, 0, 0).due("400", "trim", 400)
        .due("399", "trim", 399).refused(STATE, "feed", 0, 0, 0, 0, 0)
        .due("381", "trim", 381).refused(STATE, "feed", 0, 0, 0, 0, 0)
        .due("380", "trim", 380).due("400", "feed", 0, 0, 0, 0, 0)
        .due("20", "trim", 20).due("0", "read");
    s.text(" ".repeat(399) + "a").due("0", "read").text("a" + " ".repeat(399)).due("0", "read")
        .error(" ".repeat(400), "read", FORM, 400).error(" ".repeat(399) + "b", "read", UNKNOWN, 399)
        .theory(" ".repeat(400), 0).theory(" ".repeat(396) + "a=a;", 1)
        .error(" ".repeat(397) + "a=a", "readTheory", FORM, 400)
        .error("a".repeat(400), "read", UNKNOWN, 0);
    String deep = "f(".repeat(59) + "a" + ")".repeat(59);
    s.theory(deep + "!=" + deep + ";" + " ".repeat(40), 1).due("0", "conflict");
  }

  private static void whatUsesTheBuffer() {
    Script s = signature("the buffer is empty afterwards, also if the method throws an exception");
    s.text("n1").due("7", "declare", 0, 1).due("0", "trim", 0).text("a").due("1", "trim", 1)
        .refused(ARGUMENT, "trim", 2).due("0", "read").refused(ARGUMENT, "trim", 1)
        .text("a=a;").due("1", "readTheory").refused(ARGUMENT, "trim", 1)
        .text("a").refusedText(STATE, "declare", 0, 1).text("A").refusedText(ARGUMENT, "declare", 0, 1)
        .text("n2").refusedText(ARGUMENT, "declare", 4, 1).text("n2").refusedText(ARGUMENT, "declare", 0, 0)
        .text("x").refusedText(STATE, "declareVariable").text("A").refusedText(ARGUMENT, "declareVariable")
        .text("a b").refusedText(ARGUMENT, "read").text("a b").refusedText(ARGUMENT, "readTheory")
        .text("a=a;".repeat(31)).refusedText(STATE, "readTheory")
        .text("a=" + "f(".repeat(40) + "a" + ")".repeat(40) + ";").refusedText(ARITHMETIC, "readTheory");
    // Other methods leave it alone, also if they throw an exception.
    s.text("f(a)").due("8", "symbolCount").refused("IndexOutOfBoundsException", "term", 9, 0, 0, 0)
        .due("1", "push").due("0", "pop").due("1", "termCount").due("1", "write", 0)
        .due("1", "equate", 0, 0).due("0", "separate", 0, 0).due("4", "trim", 4).due("1", "read");
  }

  private static void longestNames() {
    Script s = signature("a name continues with letters and digits, as far as possible");
    s.symbol("a1234567", 0).symbol("a12", 1);
    s.text("a1234567").due("0", "read").error("a12345678", "read", UNKNOWN, 0)
        .error("a123456", "read", UNKNOWN, 0).error("a12", "read", ARITY, 0).text("a12(a)").due("1", "read")
        .error("a1 2(a)", "read", UNKNOWN, 0).error("a 12(a)", "read", FORM, 2)
        .error("fa", "read", UNKNOWN, 0).error("f(a)a", "read", FORM, 4).error("f(a)1", "read", FORM, 4)
        .error("1a", "read", FORM, 0).error("f(1a)", "read", FORM, 2).error("a".repeat(9), "read", UNKNOWN, 0)
        .error("aA", "read", FORM, 1).error("a1234567A", "read", FORM, 8);
  }

  /** Each byte in each place of a term and of a theory. */
  private static void blanks() {
    for (int b = 0; b < 256; b++) {
      String sign = "" + (char) b;
      for (String text : new String[] {"?a", "a?", "f?(a)", "f(?a)", "f(a?)", "f(a)?", "g(a?,a)", "g(a,?a)", "?"}) {
        compare(text.replace("?", sign), false);
      }
      for (String text : new String[] {"?a=a;", "a?=a;", "a=?a;", "a=a?;", "a=a;?", "a!?=a;", "a?!=a;", "a!=?a;"}) {
        compare(text.replace("?", sign), true);
      }
    }
    Script s = signature("bytes 10 and 32 are blanks, and no others");
    s.text("\n f \n(\n\n a )\n ").due("0", "read").theory("\n f( a )\n=\n a\n;\n", 1);
    for (int b : new int[] {0, 8, 9, 11, 12, 13, 31, 33, 127, 128, 160, 255}) {
      s.error((char) b + "a", "read", FORM, 0).error("a" + (char) b, "read", FORM, 1)
          .error("f(" + (char) b + "a)", "read", FORM, 2);
    }
  }

  private static void tooEarlyEnds() {
    Script s = signature("if the text ends too early, the position is its length");
    for (String text : new String[] {"", " ", "f(", "f( ", "g(a", "g(a ", "g(a,", "g(a, ", "g(a,a", "f(f(a)"}) {
      s.error(text, "read", FORM, text.length());
    }
    for (String text : new String[] {"a", "a ", "a!", "a!=", "a=", "a= ", "a=a", "a=a ", "f(", "f(a)=f(", "a=a;a"}) {
      s.error(text, "readTheory", FORM, text.length());
    }
    // A name without its arguments is found before that.
    s.error("f", "read", ARITY, 0).error("g(a,f ", "read", ARITY, 4).error("a=g", "readTheory", ARITY, 2)
        .error("f(b", "read", UNKNOWN, 2).error("f(z", "readTheory", VARIABLE, 2);
  }

  private static void inTheOrderOfReading() {
    Script s = signature("the first error is reported, from left to right");
    s.error("g(b,A)", "read", UNKNOWN, 2).error("g(A,b)", "read", FORM, 2).error("g(f,b)", "read", ARITY, 2)
        .error("g(b,f)", "read", UNKNOWN, 2).error("g(a;b)", "read", FORM, 3)
        // The name that has too many arguments stands first, but is found after the unknown one.
        .error("f(b,a)", "read", UNKNOWN, 2).error("f(a,b)", "read", ARITY, 0)
        .error("g(b)", "read", UNKNOWN, 2).error("g(a)b", "read", ARITY, 0)
        .error("z=b;", "readTheory", VARIABLE, 0).error("b=z;", "readTheory", UNKNOWN, 0)
        .error("a=b A", "readTheory", UNKNOWN, 2).error("a=f A", "readTheory", ARITY, 2)
        .error("a(b", "read", ARITY, 0).error("a (", "read", ARITY, 0).error("z(", "readTheory", VARIABLE, 0)
        .error("f()", "read", FORM, 2).error("f( )", "read", FORM, 3).error("f)", "read", ARITY, 0)
        // At this ")" two names lack arguments: the error is that of the name directly before it.
        .error("g(f)", "read", ARITY, 2).error("g(f )", "read", ARITY, 2).error("h(g(f))", "read", ARITY, 4)
        .error("g(f(a))", "read", ARITY, 0).error("h(a,g)", "read", ARITY, 4)
        .error("g(f)=a;", "readTheory", ARITY, 2).error("a=g(f);", "readTheory", ARITY, 4);
  }

  private static void parentheses() {
    Script s = signature("a name inside more than 59 pairs of parentheses");
    String open = "f(".repeat(59);
    s.text(open + "a" + ")".repeat(59)).due("0", "read").text(open + "x" + ")".repeat(59)).due("1", "read")
        .error(open + "f(a" + ")".repeat(60), "read", INSIDE, 120).error(open + "f(", "read", FORM, 120)
        .error(open + "f", "read", ARITY, 118).error(open + "f(b", "read", UNKNOWN, 120)
        .error(open + "f(f", "read", INSIDE, 120).error(open + "f(x", "read", INSIDE, 120)
        .error(open + "f(1", "read", FORM, 120).error(open + "b", "read", UNKNOWN, 118)
        .error(open + "f(z", "readTheory", VARIABLE, 120).error(open + "f(a", "readTheory", INSIDE, 120)
        .error(open + "a" + ")".repeat(58) + "=a;", "readTheory", FORM, 177)
        .theory(open + "a" + ")".repeat(59) + "!=" + open + "a" + ")".repeat(59) + ";", 1)
        .error("a!=" + open + "f(a", "readTheory", INSIDE, 123)
        // The second argument is inside as many pairs as the first one.
        .error("g(" + "f(".repeat(58) + "a" + ")".repeat(58) + "," + open + "a", "read", INSIDE, 296);
  }

  // ---- texts compared with TextRules

  private static void shortTexts(String text, int more) {
    compare(text, false);
    compare(text, true);
    for (int i = 0; i < 12 && more > 0; i++) {
      shortTexts(text + "afgb1(), =!;".charAt(i), more - 1);
    }
  }

  private static void beginningsAndWrongBytes() {
    List<String> texts = new ArrayList<>(List.of(TERMS));
    for (String first : TERMS) {
      for (String second : new String[] {"a", "f(a)", "x", "g(a,a) "}) {
        texts.add(first + "=" + second + ";");
        texts.add("a=a; " + second + "!=" + first + ";");
        texts.add("g(" + first + "," + second + ")");
      }
    }
    texts.addAll(List.of(THEORIES));
    for (String text : texts) {
      for (int i = 0; i <= text.length(); i++) {
        compareBoth(text.substring(0, i));
        for (char sign : "abfx1(),;=!\n A\u00e1".toCharArray()) {
          compareBoth(text.substring(0, i) + sign + text.substring(i));
          if (i < text.length()) {
            compareBoth(text.substring(0, i) + sign + text.substring(i + 1));
          }
        }
        if (i < text.length()) {
          compareBoth(text.substring(0, i) + text.substring(i + 1));
        }
      }
    }
  }

  private static void deepTexts() {
    for (String opening : new String[] {"f(", "g(a,", "h(a,a,", " f ( "}) {
      for (int n = 57; n <= 62; n++) {
        for (String inner : new String[] {"", "a", "x", "b", "f", "f(a)", "a(", "1", " a ", "g(a,", "f()"}) {
          for (int closing = n - 1; closing <= n + 1; closing++) {
            String text = opening.repeat(n) + inner + ")".repeat(closing);
            if (text.length() <= 395) {
              compareBoth(text);
              compare("a=" + text + ";", true);
            }
          }
        }
      }
    }
  }

  private static void compareBoth(String text) {
    compare(text, false);
    compare(text, true);
  }

  /** An object is used for a hundred texts. */
  private static void compare(String text, boolean asTheory) {
    if (textCount % 100 == 0) {
      prover = new GroundProver();
      for (int i = 0; i < NAMES.length; i++) {
        type(NAMES[i]);
        Calls.ask(prover, i < FIRST_VARIABLE || i == 5 ? "declare" : "declareVariable", ARITIES[i], 1);
      }
    }
    textCount++;
    type(text);
    boolean isRefused = false;
    try {
      if (asTheory) {
        prover.readTheory();
      } else {
        prover.read();
      }
    } catch (IllegalArgumentException e) {
      isRefused = true;
    } catch (IllegalStateException | ArithmeticException e) {
      // The text has no error, but a statement in it could not be added.
    }
    int[] due = new TextRules(text, asTheory, NAMES, ARITIES, FIRST_VARIABLE, 5).firstError();
    boolean isRight = prover.errorKind() == due[0] && prover.errorPosition() == due[1]
        && isRefused == (due[0] != 0) && prover.trim(0) == 0;
    if (!isRight) {
      wrong++;
      System.out.println((asTheory ? "theory " : "term ") + text + ": error " + prover.errorKind()
          + " at " + prover.errorPosition() + ", due is " + due[0] + " at " + due[1]);
    }
  }

  private static void type(String text) {
    for (int[] words : Calls.feeds(text)) {
      prover.feed(words[0], words[1], words[2], words[3], words[4]);
    }
    prover.trim(text.length());
  }
}
