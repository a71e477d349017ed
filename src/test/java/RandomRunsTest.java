import java.util.ArrayList;
import java.util.Arrays;
import java.util.List;

/**
 * Runs of calls that look random but are the same each time, asked of GroundProver and of
 * NaiveProver; every answer has to be the same. The arguments say where to begin and how many runs
 * to make.
 */
public final class RandomRunsTest {
  private static final int MOST_CALLS = 512;

  // What a run is about: anything, few equations, large terms and rules, or a table to match with.
  private static final int FEW_EQUATIONS = 1;
  private static final int LARGE_TERMS = 2;
  private static final int TABLE = 3;

  private final int run;
  private int profile;
  private long state;
  private final GroundProver prover = new GroundProver();
  private final NaiveProver naive = new NaiveProver();
  private final List<String> log = new ArrayList<>();
  private int calls;
  private boolean isWrong;

  private RandomRunsTest(int run) {
    this.run = run;
    state = run * 0x9E3779B97F4A7C15L + 12345;
  }

  public static void main(String[] args) {
    int first = args.length > 0 ? Integer.parseInt(args[0]) : 0;
    int count = args.length > 1 ? Integer.parseInt(args[1]) : 400;
    int wrong = 0;
    for (int run = first; run < first + count; run++) {
      RandomRunsTest test = new RandomRunsTest(run);
      test.go();
      wrong += test.isWrong ? 1 : 0;
    }
    System.out.println(count + " random runs, of which wrong: " + wrong);
    if (wrong != 0) {
      System.exit(1);
    }
  }

  // A generator written out here, so that the runs never change with the Java library.
  private int below(int bound) {
    state ^= state << 13;
    state ^= state >>> 7;
    state ^= state << 17;
    return bound <= 0 ? 0 : (int) ((state >>> 33) % bound);
  }

  private boolean chance(int percent) {
    return below(100) < percent;
  }

  private String call(String op, int... a) {
    if (isWrong || calls >= MOST_CALLS) {
      return "";
    }
    String due = Calls.ask(naive, op, a);
    if (due == null) {
      return "";
    }
    calls++;
    String got = Calls.ask(prover, op, a);
    log.add(op + Arrays.toString(a) + " = " + got);
    if (!got.equals(due)) {
      isWrong = true;
      System.out.println("run " + run + ": " + op + Arrays.toString(a) + " answered " + got
          + ", due is " + due + "; the last calls:");
      for (int i = Math.max(0, log.size() - 40); i < log.size(); i++) {
        System.out.println("  " + log.get(i));
      }
    }
    return got;
  }

  private void type(String text) {
    for (int[] words : Calls.feeds(text)) {
      call("feed", words);
    }
    call("trim", text.length());
  }

  private void go() {
    profile = below(4);
    if (chance(30)) {
      call("orderByWeight", 1);
    }
    if (run % 16 == 15) {
      goByGarbage();
      return;
    }
    if (profile == TABLE) {
      goByTable();
      return;
    }
    if (profile == LARGE_TERMS && chance(50)) {
      goByGrowth();
      return;
    }
    int constants = 1 + below(4);
    int[] arities = new int[constants + 1 + below(4)];
    for (int i = constants; i < arities.length; i++) {
      arities[i] = chance(45) ? 1 : chance(75) ? 2 : 3;
    }
    for (int i = 0; i < arities.length; i++) {
      declareOne("" + (char) ('a' + i), arities[i], chance(10));
    }
    declareVariables(below(3));
    for (int i = below(6); i > 0; i--) {
      chooseOrder();
    }
    if (profile == LARGE_TERMS) {
      growTerms();
    }
    int length = 60 + below(440);
    int growth = below(12);
    for (int i = 0; i < length && calls < MOST_CALLS && !isWrong; i++) {
      anyCall(growth);
    }
    call("digest");
  }

  private void declareVariables(int count) {
    for (int i = 0; i < count; i++) {
      type("v" + i);
      call("declareVariable");
    }
  }

  /** Constants with products that are read from a table, and patterns of products. */
  private void goByTable() {
    int constants = 2 + below(4);
    for (int i = 0; i < constants; i++) {
      declareOne("" + (char) ('a' + i), 0, true);
    }
    declareOne("p", 2, true);
    declareOne("u", 1, true);
    declareVariables(2 + below(2));
    for (int i = below(6); i > 0; i--) {
      chooseOrder();
    }
    typeTable(constants, 40 + below(60), 1 + below(constants));
    for (int i = 0; i < 100 && calls < MOST_CALLS - 4 && !isWrong; i++) {
      type(productText(1 + below(3)));
      String pattern = call("read");
      type(chance(70) ? "a" : limited(anyTermText(below(3), true)));
      String t = call("read");
      if (pattern.length() < 5 && t.length() < 5 && !pattern.isEmpty() && !t.isEmpty()) {
        askSolutions(Integer.parseInt(pattern), Integer.parseInt(t));
      }
      if (chance(20)) {
        anyCall(0);
      }
    }
  }

  private String productText(int depth) {
    if (depth == 0 || chance(15)) {
      return chance(80) ? "v" + below(3) : "" + (char) ('a' + below(3));
    }
    return chance(85)
        ? "p(" + productText(depth - 1) + "," + productText(depth - 1) + ")"
        : "u(" + productText(depth - 1) + ")";
  }

  /** Each product stands in the table once, or not at all, so that few constants become equal. */
  private void typeTable(int constants, int percent, int results) {
    StringBuilder text = new StringBuilder();
    for (int i = 0; i < constants * constants; i++) {
      if (chance(percent)) {
        text.append("p(").append((char) ('a' + i / constants)).append(',');
        text.append((char) ('a' + i % constants)).append(")=");
        text.append((char) ('a' + below(results))).append(';');
      }
      if (chance(10)) {
        text.append("u(").append((char) ('a' + below(constants))).append(")=a;");
      }
      if (text.length() > 380 || i + 1 == constants * constants) {
        type(limited(text.toString()));
        call("readTheory");
        text.setLength(0);
      }
    }
  }

  /** A greatest constant that is equal to a large term, and terms in which it occurs often. */
  private void goByGrowth() {
    declareOne("a", 0, true);
    declareOne("b", 0, true);
    declareOne("c", 0, true);
    declareOne("f", 1, true);
    declareOne("g", 2, true);
    declareOne("h", 3, true);
    declareVariables(2);
    call("promote", 0, 7);
    int small = parsed(call("term", 1, 0, 0, 0));
    int greatest = parsed(call("term", 0, 0, 0, 0));
    int other = parsed(call("term", 2, 0, 0, 0));
    for (int round = 0; round < 3; round++) {
      int large = grown(small, other, 5 + below(40));
      call("equate", round == 0 ? greatest : other, large);
      int holder = grown(greatest, small, 5 + below(40));
      for (int i = 0; i < 12; i++) {
        makeTerm(7);
        for (int t : new int[] {holder, anyTerm(), anyTerm()}) {
          call("normalForm", t);
          askSteps(t);
          call("smallest", t);
          call("isFinite", t);
        }
        matchOne();
      }
      call("digest");
    }
  }

  private int parsed(String answer) {
    return answer.isEmpty() || answer.startsWith("throws") ? 0 : Integer.parseInt(answer);
  }

  private int grown(int seed, int other, int steps) {
    int t = seed;
    for (int i = 0; i < steps; i++) {
      int f = chance(60) ? 3 : 4 + below(2);
      int side = chance(50) ? t : chance(50) ? seed : other;
      String made = call("term", f, t, side, chance(50) ? seed : other);
      t = made.startsWith("throws") ? t : parsed(made);
    }
    return t;
  }

  /**
   * Terms that are too large are made between calls of all kinds, each time others, so that there are
   * soon many terms in the store that nobody needs.
   */
  private void goByGarbage() {
    for (int i = 0; i < 12; i++) {
      type("" + (char) ('a' + i));
      call("declare", i < 3 ? 0 : i < 11 ? 1 : 2, 1 + below(2));
    }
    declareVariables(2);
    for (int i = 0; i < 3; i++) {
      call("term", i, 0, 0, 0);
    }
    int t = parsed(call("term", 11, 0, parsed(call("term", 11, 1, 2, 0)), 0));
    for (int i = 0; i < 5; i++) {
      int shifted = t;
      for (int k = 0; k < 3; k++) {
        int inner = parsed(call("term", 3 + i, k, 0, 0));
        shifted = parsed(call("replace", shifted, k, inner));
      }
      t = parsed(call("term", 11, t, shifted, 0));
    }
    int side = parsed(call("afterSteps", t, 0));
    while (!naive.numbered.isEmpty() && naive.numbered.get(side).size > 150) {
      side = parsed(call("argument", side, 0));
    }
    while (calls < MOST_CALLS - 12 && !isWrong) {
      side = parsed(call("term", 3 + below(8), side, 0, 0));
      if (naive.numbered.get(side).depth > 40) {
        side = parsed(call("argument", t, below(2)));
      }
      for (int i = 0; i < 4; i++) {
        call("replace", t, i % 3, side);
      }
      if (chance(50)) {
        anyCall(0);
      }
      if (chance(10)) {
        call("equate", below(12), anyGround());
        matchOne();
      }
    }
  }

  /** A term that is as large as can be, and an equation that makes a constant equal to one. */
  private void growTerms() {
    for (int i = 0; i < 12; i++) {
      makeTerm(0);
    }
    int count = naive.numbered.size();
    int t = count - 1;
    for (int i = 0; i < 14 && t >= 0; i++) {
      String next = call("replace", t, below(count), t);
      boolean isNumber = !next.isEmpty() && !next.startsWith("throws");
      if (isNumber && chance(60)) {
        t = Integer.parseInt(next);
      }
      if (chance(20)) {
        call("equate", below(count), t);
      }
    }
  }

  private void declareOne(String name, int arity, boolean isLate) {
    type(chance(5) ? mutated(name) : name);
    call("declare", chance(2) ? below(6) - 1 : arity, chance(2) ? below(12) - 1 : 1 + below(isLate ? 9 : 3));
  }

  private void chooseOrder() {
    int symbols = naive.symbols.size();
    switch (below(4)) {
      case 0 -> call("orderByWeight", below(2));
      case 1 -> call("setDirection", below(symbols + 1) - below(2), below(2));
      default -> call("promote", below(symbols + 1) - below(2), below(symbols + 1) - below(2));
    }
  }

  private int anyTerm() {
    int count = naive.numbered.size();
    if (chance(2)) {
      return chance(50) ? count : -1 - below(3);
    }
    return chance(40) ? count - 1 - below(Math.min(count, 8)) : below(count);
  }

  private int anyGround() {
    for (int i = 0; i < 8; i++) {
      int t = anyTerm();
      if (t >= 0 && t < naive.numbered.size() && naive.numbered.get(t).isGround) {
        return t;
      }
    }
    return anyTerm();
  }

  private int anyPattern() {
    int best = anyTerm();
    for (int i = 0; i < 12; i++) {
      int t = anyTerm();
      if (t >= 0 && t < naive.numbered.size() && !naive.numbered.get(t).isGround
          && naive.numbered.get(t).size <= 12) {
        return t;
      }
    }
    return best;
  }

  private String anyTermText(int depth, boolean isGround) {
    for (int i = 0; i < 20 && !naive.symbols.isEmpty(); i++) {
      int f = below(naive.symbols.size());
      NaiveProver.Sym symbol = naive.symbols.get(f);
      if ((symbol.isVariable && isGround) || (symbol.arity > 0 && depth <= 0)) {
        continue;
      }
      StringBuilder text = new StringBuilder(symbol.name);
      for (int k = 0; k < symbol.arity; k++) {
        text.append(chance(5) ? " " : "").append(k == 0 ? "(" : ",").append(chance(5) ? "\n " : "");
        text.append(anyTermText(depth - 1, isGround));
      }
      return text.append(symbol.arity > 0 ? ")" : "").toString();
    }
    return "a";
  }

  private String anyTheoryText() {
    StringBuilder text = new StringBuilder();
    for (int i = below(4); i > 0; i--) {
      text.append(anyTermText(below(4), !chance(3))).append(chance(50) ? " " : "");
      text.append(chance(25) ? "!=" : "=").append(chance(50) ? " " : "");
      text.append(anyTermText(below(3), !chance(3))).append(";").append(chance(20) ? "\n" : "");
    }
    return text.toString();
  }

  private String mutated(String text) {
    StringBuilder changed = new StringBuilder(text);
    for (int i = 1 + below(2); i > 0; i--) {
      int at = below(changed.length() + 1);
      String signs = "abcdvw(),;=! \n09Az\u0000\u00ff";
      char sign = signs.charAt(below(signs.length()));
      if (at < changed.length() && chance(60)) {
        if (chance(50)) {
          changed.deleteCharAt(at);
        } else {
          changed.setCharAt(at, sign);
        }
      } else {
        changed.insert(at, sign);
      }
    }
    return changed.toString();
  }

  private String limited(String text) {
    return text.length() > 400 ? text.substring(0, 400) : text;
  }

  private void anyCall(int growth) {
    switch (below(24)) {
      case 0, 1, 2, 3 -> makeTerm(growth);
      case 4, 5 -> readOne();
      case 6 -> readStatements();
      case 7, 8 -> addStatement();
      case 9 -> useLevels();
      case 10 -> askTheory();
      case 11, 12 -> askRules();
      case 13, 14 -> askSteps(anyTerm());
      case 15, 16, 17 -> askClass();
      case 18, 19 -> matchOne();
      case 20, 21 -> askTerm();
      case 22 -> writeOne();
      default -> askOther();
    }
  }

  private void makeTerm(int growth) {
    if (naive.numbered.isEmpty() && naive.symbols.size() > 0) {
      call("term", 0, 0, 0, 0);
    }
    if (growth > 8 && chance(30)) {
      int t = anyTerm();
      call("replace", t, anyTerm(), chance(50) ? t : anyTerm());
      return;
    }
    if (chance(growth * 3)) {
      call("replace", anyTerm(), anyTerm(), anyTerm());
      return;
    }
    call("term", below(naive.symbols.size() + (chance(3) ? 2 : 0)) - (chance(2) ? 1 : 0),
        anyTerm(), anyTerm(), anyTerm());
  }

  private void readOne() {
    String text = anyTermText(1 + below(5), chance(50));
    type(limited(chance(25) ? mutated(text) : text));
    call("read");
    if (chance(30)) {
      call("errorKind");
      call("errorPosition");
    }
  }

  private boolean isSpared() {
    return profile == FEW_EQUATIONS && !chance(12);
  }

  private void readStatements() {
    if (isSpared()) {
      return;
    }
    String text = anyTheoryText();
    type(limited(chance(25) ? mutated(text) : text));
    call("readTheory");
    if (chance(30)) {
      call("errorKind");
      call("errorPosition");
    }
    call("digest");
  }

  private void addStatement() {
    if (isSpared()) {
      return;
    }
    call(chance(70) ? "equate" : "separate", anyGround(), anyGround());
    if (chance(30)) {
      call("digest");
    }
  }

  private void useLevels() {
    call(chance(55) ? "push" : "pop");
  }

  private void askTheory() {
    switch (below(5)) {
      case 0 -> call("equationCount");
      case 1 -> call("separationCount");
      case 2 -> call("isConsistent");
      case 3 -> call("conflict");
      default -> call("dependsOn", anyTerm(), anyTerm(), below(naive.equations.size() + 1) - (chance(5) ? 1 : 0));
    }
  }

  private void askRules() {
    int rules = naive.rules.size();
    switch (below(6)) {
      case 0 -> call("ruleCount");
      case 1 -> call("ruleLeft", below(rules + 1) - (chance(5) ? 1 : 0));
      case 2 -> call("ruleRight", below(rules + 1) - (chance(5) ? 1 : 0));
      case 3 -> call("areEqual", anyTerm(), anyTerm());
      default -> call("normalForm", anyTerm());
    }
  }

  private void askSteps(int t) {
    String steps = call("stepCount", t);
    call("afterSteps", t, below(parsed(steps) + 1) + (chance(3) ? 1 : 0) - (chance(3) ? 1 : 0));
  }

  private void askClass() {
    int t = anyTerm();
    switch (below(3)) {
      case 0 -> call("countOfSize", t, chance(5) ? below(20) - 2 : 1 + below(7));
      case 1 -> call("isFinite", t);
      default -> call("smallest", t);
    }
  }

  private void matchOne() {
    askSolutions(anyPattern(), anyGround());
  }

  private void askSolutions(int pattern, int t) {
    String found = call("match", pattern, t);
    int count = found.isEmpty() || found.startsWith("throws") ? 0 : Integer.parseInt(found);
    for (int i = below(4); i > 0; i--) {
      call("solution", below(count + 1) - (chance(3) ? 1 : 0), solvedSymbol());
    }
  }

  private int solvedSymbol() {
    for (int i = 0; i < 6 && !naive.symbols.isEmpty(); i++) {
      int symbol = below(naive.symbols.size());
      if (naive.symbols.get(symbol).isVariable) {
        return symbol;
      }
    }
    return below(naive.symbols.size() + 2) - 1;
  }

  private void askTerm() {
    int t = anyTerm();
    switch (below(7)) {
      case 0 -> call("symbolOf", t);
      case 1 -> call("argument", t, below(4) - (chance(5) ? 1 : 0));
      case 2 -> call("size", t);
      case 3 -> call("depth", t);
      case 4 -> call("occurrences", anyTerm(), t);
      default -> call("compare", t, anyTerm());
    }
  }

  private void writeOne() {
    String length = call("write", anyTerm());
    int bytes = length.isEmpty() || length.startsWith("throws") ? 5 : Integer.parseInt(length);
    call("outputByte", below(bytes + 1));
    call("outputByte", bytes - 1);
  }

  private void askOther() {
    switch (below(10)) {
      case 0 -> call("symbolCount");
      case 1 -> call("rankOf", below(naive.symbols.size() + 2) - 1);
      case 2 -> chooseOrder();
      case 3 -> call("termCount");
      case 4 -> declareOne("" + (char) ('a' + below(20)), below(4), true);
      case 5 -> {
        type(chance(30) ? mutated("w") : "x" + below(5));
        call("declareVariable");
      }
      case 6 -> call("trim", below(5) - 1);
      case 7 -> call("errorPosition");
      default -> call("digest");
    }
  }
}
