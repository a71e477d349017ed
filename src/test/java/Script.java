/** A run of calls on a new object, each with the answer that is due; what differs is printed. */
final class Script {
  private static final String[] COUNTS = {
    "digest", "symbolCount", "termCount", "equationCount", "separationCount", "ruleCount",
    "isConsistent", "conflict"
  };

  private static int wrong = 0;
  private final String name;
  private final GroundProver prover = new GroundProver();

  Script(String name) {
    this.name = name;
  }

  /** To be called last: prints the outcome and ends the program, with exit code 1 if it failed. */
  static void end(String test) {
    System.out.println(test + ": " + (wrong == 0 ? "all as due" : wrong + " not as due"));
    if (wrong != 0) {
      System.exit(1);
    }
  }

  String ask(String op, int... arguments) {
    return Calls.ask(prover, op, arguments);
  }

  Script due(String want, String op, int... arguments) {
    check(op + java.util.Arrays.toString(arguments), ask(op, arguments), want);
    return this;
  }

  private void check(String what, String got, String want) {
    if (!got.equals(want)) {
      wrong++;
      System.out.println(name + ": " + what + " answered " + got + ", due is " + want);
    }
  }

  /** The call throws and changes nothing at all. */
  Script refused(String exception, String op, int... arguments) {
    String before = inputLength() + errors() + state();
    due("throws " + exception, op, arguments);
    check("the state after " + op, inputLength() + errors() + state(), before);
    return this;
  }

  /** The call throws and changes nothing, but the input buffer is empty after it. */
  Script refusedText(String exception, String op, int... arguments) {
    String before = state();
    due("throws " + exception, op, arguments);
    check("the input buffer after " + op, "" + inputLength(), "0");
    check("the state after " + op, state(), before);
    return this;
  }

  /** The text in the input buffer, put there by feed and trim. */
  Script text(String text) {
    int length = 0;
    for (int[] words : Calls.feeds(text)) {
      length += 20;
      due("" + length, "feed", words);
    }
    return due("" + text.length(), "trim", text.length());
  }

  Script symbol(String symbol, int arity) {
    return symbol(symbol, arity, 1);
  }

  Script symbol(String symbol, int arity, int weight) {
    String number = ask("symbolCount");
    return text(symbol).due(number, "declare", arity, weight);
  }

  Script variable(String symbol) {
    String number = ask("symbolCount");
    return text(symbol).due(number, "declareVariable");
  }

  /** Reads a text that has not been read before, nor returned. */
  Script reads(String term, int number) {
    return text(term).due("" + number, "read");
  }

  /** The answer as a number, where it only matters for later calls; -1 if the call throws. */
  int answer(String op, int... arguments) {
    String got = ask(op, arguments);
    check(op + " throws", "" + got.startsWith("throws"), "false");
    return got.startsWith("throws") ? -1 : Integer.parseInt(got);
  }

  int number(String term) {
    return text(term).answer("read");
  }

  Script theory(String text, int count) {
    return text(text).due("" + count, "readTheory");
  }

  Script error(String text, String op, int kind, int position) {
    text(text).refusedText("IllegalArgumentException", op);
    return due("" + kind, "errorKind").due("" + position, "errorPosition");
  }

  /** What write makes of a term. */
  Script writes(String want, int term) {
    due("" + want.length(), "write", term);
    check("the output for " + term, output(), want);
    return this;
  }

  Script outputs(String want) {
    check("the output", output(), want);
    return due("throws IndexOutOfBoundsException", "outputByte", want.length());
  }

  private String output() {
    StringBuilder text = new StringBuilder();
    for (int i = 0; i <= 2000; i++) {
      String sign = ask("outputByte", i);
      if (sign.startsWith("throws")) {
        break;
      }
      text.append((char) Integer.parseInt(sign));
    }
    return text.toString();
  }

  private int inputLength() {
    for (int n = 400; n >= 0; n--) {
      if (ask("trim", n).equals("" + n)) {
        return n;
      }
    }
    return -1;
  }

  private String errors() {
    return " " + ask("errorKind") + " " + ask("errorPosition");
  }

  /** All that can be asked for without changing anything, and the output. */
  private String state() {
    StringBuilder text = new StringBuilder(" ").append(output());
    for (String op : COUNTS) {
      text.append(' ').append(ask(op));
    }
    int symbols = Integer.parseInt(ask("symbolCount"));
    for (int i = 0; i < symbols; i++) {
      text.append(' ').append(ask("rankOf", i));
    }
    int terms = Integer.parseInt(ask("termCount"));
    for (int i = 0; i < terms; i++) {
      text.append(' ').append(ask("symbolOf", i)).append(' ').append(ask("size", i));
      text.append(' ').append(ask("isFinite", i)).append(' ').append(ask("stepCount", i));
    }
    return text.toString();
  }
}
