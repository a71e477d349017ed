import java.util.ArrayList;
import java.util.Arrays;
import java.util.HashMap;
import java.util.HashSet;
import java.util.List;
import java.util.Map;
import java.util.Set;

/**
 * A second prover, made as plainly as the document's words allow and with other methods than
 * GroundProver, to compare answers with: terms are compared by the definition of the orders, rules
 * are found by completion, steps are made one by one, classes are counted from below, and patterns
 * are matched by trying all assignments. An answer is a text: a number, or "throws" and a name. The
 * answer null says that the call would take too long here.
 */
final class NaiveProver {
  static final String INDEX = "throws IndexOutOfBoundsException";
  static final String ARGUMENT = "throws IllegalArgumentException";
  static final String STATE = "throws IllegalStateException";
  static final String ARITHMETIC = "throws ArithmeticException";
  static final String ELEMENT = "throws NoSuchElementException";

  static final class Sym {
    String name;
    int arity;
    int weight;
    boolean isVariable;
    boolean isFromRight;
  }

  static final class Term {
    int id;
    int symbol;
    Term[] parts;
    long size;
    int depth;
    long weight;
    boolean isGround;
    int number = -1;
  }

  static final class Rule {
    Term left;
    Term right;
  }

  final List<Sym> symbols = new ArrayList<>();
  final List<Integer> precedence = new ArrayList<>();
  private final Map<String, Term> terms = new HashMap<>();
  final List<Term> numbered = new ArrayList<>();
  private final Map<Long, Integer> compared = new HashMap<>();
  private StringBuilder input = new StringBuilder();
  private String output = "";
  private int errorKind;
  private int errorPosition = -1;
  private boolean isByWeight;
  private boolean isFixed;
  List<Term[]> equations = new ArrayList<>();
  List<Term[]> separations = new ArrayList<>();
  final List<int[]> levels = new ArrayList<>();
  List<Rule> rules = new ArrayList<>();
  private List<Term[]> solutions = new ArrayList<>();
  private List<Integer> solved = new ArrayList<>();

  // ---- terms and their order

  private Term make(int symbol, Term... parts) {
    StringBuilder key = new StringBuilder().append(symbol);
    for (Term part : parts) {
      key.append(',').append(part.id);
    }
    Term found = terms.get(key.toString());
    if (found != null) {
      return found;
    }
    Term t = new Term();
    t.id = terms.size();
    t.symbol = symbol;
    t.parts = parts.clone();
    t.size = 1;
    t.weight = symbols.get(symbol).weight;
    t.isGround = !symbols.get(symbol).isVariable;
    for (Term part : parts) {
      t.size += part.size;
      t.weight += part.weight;
      t.depth = Math.max(t.depth, part.depth);
      t.isGround &= part.isGround;
    }
    t.depth++;
    terms.put(key.toString(), t);
    return t;
  }

  private int rank(int symbol) {
    return precedence.indexOf(symbol);
  }

  private boolean isGreater(Term s, Term t) {
    if (s == t) {
      return false;
    }
    long key = (long) s.id << 32 | t.id;
    Integer known = compared.get(key);
    if (known != null) {
      return known == 1;
    }
    boolean answer = isByWeight ? isHeavier(s, t) : isGreaterByPath(s, t);
    compared.put(key, answer ? 1 : 0);
    return answer;
  }

  private boolean isHeavier(Term s, Term t) {
    if (s.weight != t.weight) {
      return s.weight > t.weight;
    }
    if (s.symbol != t.symbol) {
      return rank(s.symbol) > rank(t.symbol);
    }
    return wins(s, t);
  }

  private boolean isGreaterByPath(Term s, Term t) {
    for (Term part : s.parts) {
      if (part == t || isGreater(part, t)) {
        return true;
      }
    }
    if (rank(s.symbol) < rank(t.symbol)) {
      return false;
    }
    for (Term part : t.parts) {
      if (!isGreater(s, part)) {
        return false;
      }
    }
    return s.symbol != t.symbol || wins(s, t);
  }

  private boolean wins(Term s, Term t) {
    int n = s.parts.length;
    for (int i = 0; i < n; i++) {
      int k = symbols.get(s.symbol).isFromRight ? n - 1 - i : i;
      if (s.parts[k] != t.parts[k]) {
        return isGreater(s.parts[k], t.parts[k]);
      }
    }
    return false;
  }

  private int order(Term s, Term t) {
    return s == t ? 0 : isGreater(s, t) ? 1 : -1;
  }

  private static boolean isTooLarge(Term t) {
    return t.size > 1000 || t.depth > 60;
  }

  private String give(Term t) {
    if (isTooLarge(t)) {
      return ARITHMETIC;
    }
    if (t.number < 0) {
      t.number = numbered.size();
      numbered.add(t);
      isFixed = true;
    }
    return "" + t.number;
  }

  private boolean isTerm(int t) {
    return t >= 0 && t < numbered.size();
  }

  private Set<Term> subterms(Term t, Set<Term> found) {
    if (found.add(t)) {
      for (Term part : t.parts) {
        subterms(part, found);
      }
    }
    return found;
  }

  // ---- input and symbols

  String feed(int a, int b, int c, int d, int e) {
    if (input.length() + 20 > 400) {
      return STATE;
    }
    for (int word : new int[] {a, b, c, d, e}) {
      for (int shift = 24; shift >= 0; shift -= 8) {
        input.append((char) (word >>> shift & 255));
      }
    }
    return "" + input.length();
  }

  String trim(int n) {
    if (n < 0 || n > input.length()) {
      return ARGUMENT;
    }
    input.setLength(n);
    return "" + n;
  }

  String declare(int arity, int weight) {
    return declareAny(arity, weight, false);
  }

  String declareVariable() {
    return declareAny(0, 1, true);
  }

  private String declareAny(int arity, int weight, boolean isVariable) {
    String name = input.toString();
    input.setLength(0);
    if (arity < 0 || arity > 3 || weight < 1 || weight > 9 || !name.matches("[a-z][a-z0-9]{0,7}")) {
      return ARGUMENT;
    }
    int variables = 0;
    for (Sym symbol : symbols) {
      variables += symbol.isVariable ? 1 : 0;
      if (symbol.name.equals(name)) {
        return STATE;
      }
    }
    if (symbols.size() >= 24 || (isVariable && variables >= 3)) {
      return STATE;
    }
    Sym symbol = new Sym();
    symbol.name = name;
    symbol.arity = arity;
    symbol.weight = weight;
    symbol.isVariable = isVariable;
    symbols.add(symbol);
    precedence.add(symbols.size() - 1);
    return "" + (symbols.size() - 1);
  }

  String symbolCount() {
    return "" + symbols.size();
  }

  String orderByWeight(boolean byWeight) {
    if (isFixed) {
      return STATE;
    }
    boolean before = isByWeight;
    isByWeight = byWeight;
    return before ? "1" : "0";
  }

  private boolean isSymbol(int symbol) {
    return symbol >= 0 && symbol < symbols.size();
  }

  String promote(int symbol, int rank) {
    if (!isSymbol(symbol) || !isSymbol(rank)) {
      return INDEX;
    }
    if (isFixed) {
      return STATE;
    }
    int before = rank(symbol);
    precedence.remove(before);
    precedence.add(rank, symbol);
    return "" + before;
  }

  String rankOf(int symbol) {
    return isSymbol(symbol) ? "" + rank(symbol) : INDEX;
  }

  String setDirection(int symbol, boolean isFromRight) {
    if (!isSymbol(symbol)) {
      return INDEX;
    }
    if (isFixed) {
      return STATE;
    }
    boolean before = symbols.get(symbol).isFromRight;
    symbols.get(symbol).isFromRight = isFromRight;
    return before ? "1" : "0";
  }

  // ---- terms

  String term(int symbol, int x, int y, int z) {
    if (!isSymbol(symbol)) {
      return INDEX;
    }
    int[] given = {x, y, z};
    Term[] parts = new Term[symbols.get(symbol).arity];
    for (int i = 0; i < parts.length; i++) {
      if (!isTerm(given[i])) {
        return INDEX;
      }
      parts[i] = numbered.get(given[i]);
    }
    return give(make(symbol, parts));
  }

  // ---- texts

  private static final class Wrong extends RuntimeException {
    private static final long serialVersionUID = 1;
    final int kind;
    final int position;

    Wrong(int kind, int position) {
      super(null, null, false, false);
      this.kind = kind;
      this.position = position;
    }
  }

  private String text;
  private int at;
  private boolean isTheory;

  private void begin(boolean asTheory) {
    text = input.toString();
    input.setLength(0);
    at = 0;
    isTheory = asTheory;
    errorKind = 0;
    errorPosition = -1;
  }

  private char next() {
    while (at < text.length() && (text.charAt(at) == 10 || text.charAt(at) == 32)) {
      at++;
    }
    return at < text.length() ? text.charAt(at) : 0;
  }

  private Wrong wrongForm() {
    return new Wrong(1, at);
  }

  private Term parse(int inside) {
    char first = next();
    if (first < 'a' || first > 'z') {
      throw wrongForm();
    }
    int start = at;
    while (at < text.length() && text.substring(at, at + 1).matches("[a-z0-9]")) {
      at++;
    }
    String name = text.substring(start, at);
    int symbol = -1;
    for (int i = 0; i < symbols.size(); i++) {
      symbol = symbols.get(i).name.equals(name) ? i : symbol;
    }
    if (symbol < 0) {
      throw new Wrong(2, start);
    }
    if (isTheory && symbols.get(symbol).isVariable) {
      throw new Wrong(3, start);
    }
    if (inside > 59) {
      throw new Wrong(4, start);
    }
    int arity = symbols.get(symbol).arity;
    if ((next() == '(') != (arity > 0)) {
      throw new Wrong(5, start);
    }
    Term[] parts = new Term[arity];
    for (int i = 0; i < arity; i++) {
      at++;
      parts[i] = parse(inside + 1);
      char behind = next();
      if (behind != ',' && behind != ')') {
        throw wrongForm();
      }
      if ((behind == ',') != (i < arity - 1)) {
        throw new Wrong(5, start);
      }
    }
    if (arity > 0) {
      at++;
    }
    return make(symbol, parts);
  }

  String read() {
    begin(false);
    try {
      Term t = parse(0);
      if (next() != 0 || at < text.length()) {
        throw wrongForm();
      }
      return give(t);
    } catch (Wrong wrong) {
      errorKind = wrong.kind;
      errorPosition = wrong.position;
      return ARGUMENT;
    }
  }

  String readTheory() {
    begin(true);
    List<Term[]> statements = new ArrayList<>();
    List<Boolean> signs = new ArrayList<>();
    try {
      next();
      while (at < text.length()) {
        Term left = parse(0);
        boolean isEquation = next() == '=';
        if (!isEquation && next() == '!') {
          at++;
          if (at >= text.length() || text.charAt(at) != '=') {
            throw wrongForm();
          }
        } else if (!isEquation) {
          throw wrongForm();
        }
        at++;
        Term right = parse(0);
        if (next() != ';') {
          throw wrongForm();
        }
        at++;
        statements.add(new Term[] {left, right});
        signs.add(isEquation);
        next();
      }
    } catch (Wrong wrong) {
      errorKind = wrong.kind;
      errorPosition = wrong.position;
      return ARGUMENT;
    }
    List<Term[]> oldEquations = new ArrayList<>(equations);
    List<Term[]> oldSeparations = new ArrayList<>(separations);
    List<Rule> oldRules = rules;
    for (int i = 0; i < statements.size(); i++) {
      String answer = signs.get(i) ? addEquation(statements.get(i)) : addSeparation(statements.get(i));
      if (answer.startsWith("throws")) {
        equations = oldEquations;
        separations = oldSeparations;
        rules = oldRules;
        return answer;
      }
    }
    isFixed |= !statements.isEmpty();
    return "" + statements.size();
  }

  String errorKind() {
    return "" + errorKind;
  }

  String errorPosition() {
    return "" + errorPosition;
  }

  String termCount() {
    return "" + numbered.size();
  }

  String symbolOf(int t) {
    return isTerm(t) ? "" + numbered.get(t).symbol : INDEX;
  }

  String argument(int t, int i) {
    if (!isTerm(t) || i < 0 || i >= numbered.get(t).parts.length) {
      return INDEX;
    }
    return give(numbered.get(t).parts[i]);
  }

  String size(int t) {
    return isTerm(t) ? "" + numbered.get(t).size : INDEX;
  }

  String depth(int t) {
    return isTerm(t) ? "" + numbered.get(t).depth : INDEX;
  }

  String compare(int s, int t) {
    return isTerm(s) && isTerm(t) ? "" + order(numbered.get(s), numbered.get(t)) : INDEX;
  }

  String occurrences(int s, int t) {
    return isTerm(s) && isTerm(t) ? "" + countOf(numbered.get(s), numbered.get(t)) : INDEX;
  }

  private int countOf(Term s, Term t) {
    int count = s == t ? 1 : 0;
    for (Term part : t.parts) {
      count += countOf(s, part);
    }
    return count;
  }

  String replace(int t, int s, int r) {
    if (!isTerm(t) || !isTerm(s) || !isTerm(r)) {
      return INDEX;
    }
    return give(exchange(numbered.get(t), numbered.get(s), numbered.get(r)));
  }

  private Term exchange(Term t, Term s, Term r) {
    if (t == s) {
      return r;
    }
    Term[] parts = t.parts.clone();
    for (int i = 0; i < parts.length; i++) {
      parts[i] = exchange(parts[i], s, r);
    }
    return make(t.symbol, parts);
  }

  String write(int t) {
    if (!isTerm(t)) {
      return INDEX;
    }
    StringBuilder written = new StringBuilder();
    writeTo(written, numbered.get(t));
    if (written.length() > 2000) {
      return ARITHMETIC;
    }
    output = written.toString();
    return "" + output.length();
  }

  private void writeTo(StringBuilder written, Term t) {
    written.append(symbols.get(t.symbol).name);
    for (int i = 0; i < t.parts.length; i++) {
      written.append(i == 0 ? '(' : ',');
      writeTo(written, t.parts[i]);
    }
    written.append(t.parts.length > 0 ? ")" : "");
  }

  String outputByte(int i) {
    return i >= 0 && i < output.length() ? "" + (int) output.charAt(i) : INDEX;
  }

  // ---- theory

  private boolean areGround(int s, int t) {
    return numbered.get(s).isGround && numbered.get(t).isGround;
  }

  String equate(int s, int t) {
    if (!isTerm(s) || !isTerm(t)) {
      return INDEX;
    }
    if (!areGround(s, t)) {
      return ARGUMENT;
    }
    return addEquation(new Term[] {numbered.get(s), numbered.get(t)});
  }

  String separate(int s, int t) {
    if (!isTerm(s) || !isTerm(t)) {
      return INDEX;
    }
    if (!areGround(s, t)) {
      return ARGUMENT;
    }
    return addSeparation(new Term[] {numbered.get(s), numbered.get(t)});
  }

  private String addEquation(Term[] pair) {
    if (equations.size() >= 30) {
      return STATE;
    }
    equations.add(pair);
    List<Rule> found = complete(equations);
    for (Rule rule : found) {
      for (Term side : new Term[] {rule.left, rule.right}) {
        if (side.size > 300 || side.depth > 40) {
          equations.remove(equations.size() - 1);
          return ARITHMETIC;
        }
      }
    }
    rules = found;
    return "" + (equations.size() - 1);
  }

  private String addSeparation(Term[] pair) {
    if (separations.size() >= 30) {
      return STATE;
    }
    separations.add(pair);
    return "" + (separations.size() - 1);
  }

  String equationCount() {
    return "" + equations.size();
  }

  String separationCount() {
    return "" + separations.size();
  }

  private int firstConflict() {
    for (int i = 0; i < separations.size(); i++) {
      if (normal(separations.get(i)[0], rules) == normal(separations.get(i)[1], rules)) {
        return i;
      }
    }
    return -1;
  }

  String isConsistent() {
    return firstConflict() < 0 ? "1" : "0";
  }

  String conflict() {
    return firstConflict() < 0 ? ELEMENT : "" + firstConflict();
  }

  String push() {
    if (levels.size() >= 8) {
      return STATE;
    }
    levels.add(new int[] {equations.size(), separations.size()});
    return "" + levels.size();
  }

  String pop() {
    if (levels.isEmpty()) {
      return STATE;
    }
    int[] level = levels.remove(levels.size() - 1);
    equations = new ArrayList<>(equations.subList(0, level[0]));
    separations = new ArrayList<>(separations.subList(0, level[1]));
    rules = complete(equations);
    return "" + levels.size();
  }

  // ---- rules

  private Term normal(Term t, List<Rule> by) {
    return normal(t, by, new HashMap<>());
  }

  private Term normal(Term t, List<Rule> by, Map<Term, Term> known) {
    if (known.containsKey(t)) {
      return known.get(t);
    }
    Term[] parts = t.parts.clone();
    for (int i = 0; i < parts.length; i++) {
      parts[i] = normal(parts[i], by, known);
    }
    Term made = make(t.symbol, parts);
    Term result = made;
    for (Rule rule : by) {
      if (rule.left == made) {
        result = normal(rule.right, by, known);
        break;
      }
    }
    known.put(t, result);
    return result;
  }

  private List<Rule> complete(List<Term[]> from) {
    List<Rule> found = new ArrayList<>();
    List<Term[]> open = new ArrayList<>(from);
    while (!open.isEmpty()) {
      Term[] pair = open.remove(open.size() - 1);
      Term s = normal(pair[0], found);
      Term t = normal(pair[1], found);
      if (s == t) {
        continue;
      }
      Rule made = new Rule();
      made.left = isGreater(s, t) ? s : t;
      made.right = isGreater(s, t) ? t : s;
      for (int i = found.size() - 1; i >= 0; i--) {
        if (subterms(found.get(i).left, new HashSet<>()).contains(made.left)) {
          Rule old = found.remove(i);
          open.add(new Term[] {old.left, old.right});
        }
      }
      found.add(made);
      for (Rule rule : found) {
        rule.right = normal(rule.right, found);
      }
    }
    found.sort((a, b) -> order(a.left, b.left));
    return found;
  }

  String ruleCount() {
    return "" + rules.size();
  }

  String ruleLeft(int i) {
    return i >= 0 && i < rules.size() ? give(rules.get(i).left) : INDEX;
  }

  String ruleRight(int i) {
    return i >= 0 && i < rules.size() ? give(rules.get(i).right) : INDEX;
  }

  String normalForm(int t) {
    return isTerm(t) ? give(normal(numbered.get(t), rules)) : INDEX;
  }

  private boolean areSame(int s, int t, List<Rule> by) {
    return normal(numbered.get(s), by) == normal(numbered.get(t), by);
  }

  String areEqual(int s, int t) {
    return !isTerm(s) || !isTerm(t) ? INDEX : areSame(s, t, rules) ? "1" : "0";
  }

  String dependsOn(int s, int t, int e) {
    if (!isTerm(s) || !isTerm(t) || e < 0 || e >= equations.size()) {
      return INDEX;
    }
    List<Term[]> others = new ArrayList<>(equations);
    others.remove(e);
    return areSame(s, t, rules) && !areSame(s, t, complete(others)) ? "1" : "0";
  }

  /** The term after the leftmost step, or null if there is none. */
  private Term step(Term t) {
    for (Rule rule : rules) {
      if (rule.left == t) {
        return rule.right;
      }
    }
    for (int i = 0; i < t.parts.length; i++) {
      Term part = step(t.parts[i]);
      if (part != null) {
        Term[] parts = t.parts.clone();
        parts[i] = part;
        return make(t.symbol, parts);
      }
    }
    return null;
  }

  private List<Term> steps(int t) {
    List<Term> all = new ArrayList<>();
    for (Term s = numbered.get(t); s != null; s = step(s)) {
      all.add(s);
    }
    return all;
  }

  String stepCount(int t) {
    return isTerm(t) ? "" + (steps(t).size() - 1) : INDEX;
  }

  String afterSteps(int t, int k) {
    if (!isTerm(t)) {
      return INDEX;
    }
    List<Term> all = steps(t);
    return k < 0 || k >= all.size() ? INDEX : give(all.get(k));
  }

  // ---- classes

  /** From below: for each size the normal forms of all terms of this size, with their numbers. */
  String countOfSize(int t, int n) {
    if (!isTerm(t)) {
      return INDEX;
    }
    if (n < 1 || n > 12) {
      return ARGUMENT;
    }
    List<Map<Term, Long>> sizes = new ArrayList<>();
    sizes.add(new HashMap<>());
    long work = 0;
    for (int size = 1; size <= n; size++) {
      Map<Term, Long> counts = new HashMap<>();
      for (int f = 0; f < symbols.size(); f++) {
        int arity = symbols.get(f).arity;
        if (arity == 0) {
          if (size == 1) {
            counts.merge(normal(make(f), rules), 1L, Long::sum);
          }
          continue;
        }
        for (int i = 1; i < size; i++) {
          for (int j = arity > 1 ? 1 : 0; j <= (arity > 1 ? size : 0); j++) {
            int k = size - 1 - i - j;
            if (arity < 3 ? k != 0 : k < 1) {
              continue;
            }
            Map<Term, Long> none = new HashMap<>();
            none.put(null, 1L);
            Map<Term, Long> first = sizes.get(i);
            Map<Term, Long> second = arity > 1 ? sizes.get(j) : none;
            Map<Term, Long> third = arity > 2 ? sizes.get(k) : none;
            work += (long) first.size() * second.size() * third.size();
            if (work > 4000) {
              return null;
            }
            for (Term a : first.keySet()) {
              for (Term b : second.keySet()) {
                for (Term c : third.keySet()) {
                  Term[] parts = Arrays.copyOf(new Term[] {a, b, c}, arity);
                  long times = first.get(a) * second.get(b) * third.get(c);
                  counts.merge(normal(make(f, parts), rules), times, Long::sum);
                }
              }
            }
          }
        }
      }
      sizes.add(counts);
    }
    Long count = sizes.get(n).get(normal(numbered.get(t), rules));
    return "" + (count == null ? 0 : count);
  }

  private List<Term> shapes(Term normal) {
    List<Term> all = new ArrayList<>();
    all.add(normal);
    for (Rule rule : rules) {
      if (rule.right == normal) {
        all.add(rule.left);
      }
    }
    return all;
  }

  /** Whether a walk down the shapes of a class can come back to a class that it stands in. */
  private boolean isCyclic(Term normal, Set<Term> open, Set<Term> done) {
    if (open.contains(normal)) {
      return true;
    }
    if (!done.add(normal)) {
      return false;
    }
    open.add(normal);
    boolean answer = false;
    for (Term shape : shapes(normal)) {
      for (Term part : shape.parts) {
        answer |= isCyclic(part, open, done);
      }
    }
    open.remove(normal);
    return answer;
  }

  String isFinite(int t) {
    if (!isTerm(t)) {
      return INDEX;
    }
    Term normal = normal(numbered.get(t), rules);
    return isCyclic(normal, new HashSet<>(), new HashSet<>()) ? "0" : "1";
  }

  private Set<Term> classesBelow(Term normal) {
    Set<Term> all = new HashSet<>();
    List<Term> open = new ArrayList<>();
    open.add(normal);
    all.add(normal);
    while (!open.isEmpty()) {
      for (Term shape : shapes(open.remove(open.size() - 1))) {
        for (Term part : shape.parts) {
          if (all.add(part)) {
            open.add(part);
          }
        }
      }
    }
    return all;
  }

  /** Betters the best known term of each class until there is nothing left to better. */
  String smallest(int t) {
    if (!isTerm(t)) {
      return INDEX;
    }
    Term root = normal(numbered.get(t), rules);
    Set<Term> classes = classesBelow(root);
    Map<Term, Term> best = new HashMap<>();
    for (Term c : classes) {
      best.put(c, c);
    }
    boolean isChanged = true;
    while (isChanged) {
      isChanged = false;
      for (Term c : classes) {
        for (Term shape : shapes(c)) {
          Term[] parts = shape.parts.clone();
          for (int i = 0; i < parts.length; i++) {
            parts[i] = best.get(parts[i]);
          }
          Term made = make(shape.symbol, parts);
          Term old = best.get(c);
          if (made.size < old.size || (made.size == old.size && order(made, old) < 0)) {
            best.put(c, made);
            isChanged = true;
          }
        }
      }
    }
    return give(best.get(root));
  }

  String match(int pattern, int t) {
    if (!isTerm(pattern) || !isTerm(t)) {
      return INDEX;
    }
    if (!numbered.get(t).isGround || numbered.get(pattern).size > 12) {
      return ARGUMENT;
    }
    Term normal = normal(numbered.get(t), rules);
    List<Term> candidates = new ArrayList<>(classesBelow(normal));
    List<Integer> variables = new ArrayList<>();
    for (Term part : subterms(numbered.get(pattern), new HashSet<>())) {
      if (symbols.get(part.symbol).isVariable) {
        variables.add(part.symbol);
      }
    }
    variables.sort(null);
    if (Math.pow(candidates.size(), variables.size()) > 9000) {
      return null;
    }
    List<Term[]> found = new ArrayList<>();
    tryAll(numbered.get(pattern), normal, candidates, variables, new Term[variables.size()], 0, found);
    if (found.size() > 500) {
      return ARITHMETIC;
    }
    found.sort((a, b) -> {
      for (int i = 0; i < a.length; i++) {
        if (a[i] != b[i]) {
          return order(a[i], b[i]);
        }
      }
      return 0;
    });
    solutions = found;
    solved = variables;
    return "" + found.size();
  }

  private void tryAll(Term pattern, Term normal, List<Term> candidates, List<Integer> variables,
      Term[] assigned, int next, List<Term[]> found) {
    if (next == assigned.length) {
      if (normal(pattern, rules) == normal) {
        found.add(assigned.clone());
      }
      return;
    }
    Term variable = make(variables.get(next));
    for (Term candidate : candidates) {
      assigned[next] = candidate;
      tryAll(exchange(pattern, variable, candidate), normal, candidates, variables, assigned,
          next + 1, found);
    }
  }

  String solution(int k, int variable) {
    if (k < 0 || k >= solutions.size() || !isSymbol(variable)) {
      return INDEX;
    }
    int i = solved.indexOf(variable);
    return i < 0 ? ELEMENT : give(solutions.get(k)[i]);
  }

  String digest() {
    long d = 17;
    d = d * 31 + symbols.size();
    for (int i = 0; i < symbols.size(); i++) {
      d = d * 31 + rank(i);
    }
    for (int x : new int[] {
        numbered.size(), equations.size(), separations.size(), levels.size(), rules.size()}) {
      d = d * 31 + x;
    }
    for (Rule rule : rules) {
      d = (d * 31 + rule.left.size) * 31 + rule.right.size;
    }
    return "" + d;
  }
}
