/** A run of calls on a new object, each with the answer that is due; what differs is printed. */
final class Script {
  private static final String[] COUNTS = {
    "digest", "symbolCount", "termCount", "equationCount", "separationCount", "ruleCount",
    "isConsistent", "conflict"
  };

  private static int wrong = 0;
  private final String name;
  private final GroundProver prover = new GroundProver();

  Script(String name) {
    this.name = name;
  }

  /** To be called last: prints the outcome and ends the program, with exit code 1 if it failed. */
  static void end(String test) {
    System.out.println(test + ": " + (wrong == 0 ? "all as due" : wrong + " not as due"));
    if (wrong != 0) {
      System.exit(1);
    }
  }

  String ask(String op, int... arguments) {
    return Calls.ask(prover, op, arguments);
  }

  Script due(String want, String op, int... arguments) {
    check(op + java.util.Arrays.toString(arguments), ask(op, arguments), want);
    return this;
  }

  private void check(String what, String got, String want) {
    if (!got.equals(want)) {
      fail(name + ": " + what + " answered " + got + ", due is " + want);
    }
  }

  static void fail(String what) {
    wrong++;
    System.out.println(what);
  }

  /** The call throws and changes nothing at all. */
  Script refused(String exception, String op, int... arguments) {
    String before = inputLength() + errors() + state();
    due("throws " + exception, op, arguments);
    check("the state after " + op, inputLength() + errors() + state(), before);
    return this;
  }

  /** The call throws and changes nothing, but the input buffer is empty after it. */
  Script refusedText(String exception, String op, int... arguments) {
    String before = state();
    due("throws " + exception, op, arguments);
    check("the input buffer after " + op, "" + inputLength(), "0");
    check("the state after " + op, state(), before);
    return this;
  }

  /** The text in the input buffer, put there by feed and trim. */
  Script text(String text) {
    int length = 0;
    for (int[] words : Calls.feeds(text)) {
      length += 20;
      due("" + length, "feed", words);
    }
    return due("" + text.length(), "trim", text.length());
  }

  Script symbol(String symbol, int arity) {
    return symbol(symbol, arity, 1);
  }

  Script symbol(String symbol, int arity, int weight) {
    String number = ask("symbolCount");
    return text(symbol).due(number, "declare", arity, weight);
  }

  Script variable(String symbol) {
    String number = ask("symbolCount");
    return text(symbol).due(number, "declareVariable");
  }

  /** Reads a text that has not been read before, nor returned. */
  Script reads(String term, int number) {
    return text(term).due("" + number, "read");
  }

  /** The answer as a number, where it only matters for later calls; -1 if the call throws. */
  int answer(String op, int... arguments) {
    String got = ask(op, arguments);
    check(op + " throws", "" + got.startsWith("throws"), "false");
    return got.startsWith("throws") ? -1 : Integer.parseInt(got);
  }

  int number(String term) {
    return text(term).answer("read");
  }

  Script theory(String text, int count) {
    return text(text).due("" + count, "readTheory");
  }

  Script error(String text, String op, int kind, int position) {
    text(text).refusedText("IllegalArgumentException", op);
    return due("" + kind, "errorKind").due("" + position, "errorPosition");
  }

  /** What write makes of a term. */
  Script writes(String want, int term) {
    due("" + want.length(), "write", term);
    check("the output for " + term, output(), want);
    return this;
  }

  Script outputs(String want) {
    check("the output", output(), want);
    return due("throws IndexOutOfBoundsException", "outputByte", want.length());
  }

  /** The symbol of one argument, applied to a term a number of times. */
  int chain(int symbol, int t, int times) {
    int made = t;
    for (int i = 0; i < times; i++) {
      made = answer("term", symbol, made, 0, 0);
    }
    return made;
  }

  /** A term of a size, not deep: from a term of size 1, by symbols of one and of two arguments. */
  int bush(int unary, int binary, int leaf, int size) {
    if (size <= 1) {
      return leaf;
    }
    if (size % 2 == 0) {
      return answer("term", unary, bush(unary, binary, leaf, size - 1), 0, 0);
    }
    int half = bush(unary, binary, leaf, (size - 1) / 2);
    return answer("term", binary, half, half, 0);
  }

  private String output() {
    StringBuilder text = new StringBuilder();
    for (int i = 0; i <= 2000; i++) {
      String sign = ask("outputByte", i);
      if (sign.startsWith("throws")) {
        break;
      }
      text.append((char) Integer.parseInt(sign));
    }
    return text.toString();
  }

  private int inputLength() {
    for (int n = 400; n >= 0; n--) {
      if (ask("trim", n).equals("" + n)) {
        return n;
      }
    }
    return -1;
  }

  private String errors() {
    return " " + ask("errorKind") + " " + ask("errorPosition");
  }

  /** All that can be asked for without changing anything in the end, and the output. */
  private String state() {
    StringBuilder text = new StringBuilder(" ").append(output());
    for (String op : COUNTS) {
      text.append(' ').append(ask(op));
    }
    int symbols = Integer.parseInt(ask("symbolCount"));
    for (int i = 0; i < symbols; i++) {
      text.append(' ').append(ask("rankOf", i)).append(kept("setDirection", i));
    }
    text.append(kept("orderByWeight"));
    int terms = Integer.parseInt(ask("termCount"));
    for (int i = 0; i < terms; i++) {
      text.append(' ').append(ask("symbolOf", i)).append(' ').append(ask("size", i));
      text.append(' ').append(ask("isFinite", i)).append(' ').append(ask("stepCount", i));
      text.append(' ').append(ask("compare", i, i / 2)).append(' ').append(ask("areEqual", i, i / 2));
    }
    return text.toString();
  }

  /** What a call that chooses something answers, which is what was chosen before; it is put back. */
  private String kept(String op, int... arguments) {
    int[] all = java.util.Arrays.copyOf(arguments, arguments.length + 1);
    String before = ask(op, all);
    if (!before.startsWith("throws")) {
      all[arguments.length] = Integer.parseInt(before);
      ask(op, all);
    }
    return " " + before;
  }
}
