import java.util.NoSuchElementException;

/**
 * A prover for equations between ground terms; ../shared/DOC.md is its document.
 *
 * <p>Terms are shared: the store holds each term once, as a node, so that two terms are the same if
 * their nodes are. A theory is kept as its rules, whose sides are nodes.
 */
public final class GroundProver {
  private static final int NONE = -1;

  private static final int MOST_PARTS = 3;
  private static final int MOST_SYMBOLS = 24;
  private static final int MOST_VARIABLES = 3;
  private static final int MOST_NAME = 8;
  private static final int MOST_WEIGHT = 9;
  private static final int MOST_INPUT = 400;
  private static final int MOST_OUTPUT = 2000;
  private static final int MOST_OPEN = 59;
  private static final int MOST_STATEMENTS = 30;
  private static final int MOST_LEVELS = 8;
  private static final int MOST_SOLUTIONS = 500;
  private static final int MOST_PATTERN = 12;
  private static final int MOST_COUNTED = 12;

  // The terms in the store, those that one call lists, and those of them that are inside each other.
  private static final int MOST_NODES = 1 << 19;
  private static final int MOST_LISTED = 1 << 17;
  private static final int MOST_OPEN_NODES = 256;

  private static final int LARGEST_TERM = 1000;
  private static final int DEEPEST_TERM = 60;
  private static final int LARGEST_SIDE = 300;
  private static final int DEEPEST_SIDE = 40;

  private static final int WRONG_FORM = 1;
  private static final int UNKNOWN_NAME = 2;
  private static final int NAME_OF_VARIABLE = 3;
  private static final int TOO_MANY_OPEN = 4;
  private static final int WRONG_ARITY = 5;

  private static final int BY_PATH = 0;
  private static final int BY_WEIGHT = 1;
  private static final int BY_SIZE = 2;

  private final Symbols symbols;
  private final TermStore store;
  private final Walk walk;
  private final Grammar grammar;
  private final Theory theory;
  private final Reader reader;
  private final Printer printer;
  private final ClassSearch search;
  private final Matcher matcher;
  private final Row numbered;
  private int numberedCount;

  public GroundProver() {
    symbols = new Symbols();
    store = new TermStore(symbols);
    walk = new Walk(store);
    grammar = new Grammar(symbols);
    theory = new Theory(symbols, store, walk, grammar);
    reader = new Reader(symbols, store);
    printer = new Printer(symbols, store, walk);
    search = new ClassSearch(theory, store, walk, grammar);
    matcher = new Matcher(theory, store, walk, grammar);
    numbered = new Row(MOST_LISTED);
  }

  // ---- input and symbols

  public int feed(int a, int b, int c, int d, int e) throws IllegalStateException {
    if (reader.length() + 20 > MOST_INPUT) {
      throw new IllegalStateException("the input buffer would be too long");
    }
    reader.append(a);
    reader.append(b);
    reader.append(c);
    reader.append(d);
    reader.append(e);
    return reader.length();
  }

  public int trim(int n) throws IllegalArgumentException {
    if (n < 0 || n > reader.length()) {
      throw new IllegalArgumentException("the input buffer has not so many bytes");
    }
    reader.shorten(n);
    return n;
  }

  public int declare(int arity, int weight) throws IllegalArgumentException, IllegalStateException {
    boolean isName = reader.holdsName();
    int named = reader.heldSymbol();
    int length = reader.drain();
    if (arity < 0 || arity > MOST_PARTS || weight < 1 || weight > MOST_WEIGHT || !isName) {
      throw new IllegalArgumentException("arity, weight or name");
    }
    if (named != NONE || symbols.isFull()) {
      throw new IllegalStateException("the name is taken, or there are too many symbols");
    }
    return symbols.add(reader.bytes(), length, arity, weight);
  }

  public int declareVariable() throws IllegalArgumentException, IllegalStateException {
    boolean isName = reader.holdsName();
    int named = reader.heldSymbol();
    int length = reader.drain();
    if (!isName) {
      throw new IllegalArgumentException("not a name");
    }
    if (named != NONE || symbols.isFull() || symbols.hasAllVariables()) {
      throw new IllegalStateException("the name is taken, or there are too many symbols");
    }
    return symbols.addVariable(reader.bytes(), length);
  }

  public int symbolCount() {
    return symbols.count();
  }

  public boolean orderByWeight(boolean isByWeight) throws IllegalStateException {
    if (symbols.isOrderFixed()) {
      throw new IllegalStateException("the order is fixed");
    }
    boolean before = symbols.isByWeight();
    symbols.chooseOrder(isByWeight);
    return before;
  }

  public int promote(int symbol, int rank) throws IndexOutOfBoundsException, IllegalStateException {
    if (!symbols.has(symbol) || !symbols.has(rank)) {
      throw new IndexOutOfBoundsException("no such symbol or rank");
    }
    if (symbols.isOrderFixed()) {
      throw new IllegalStateException("the order is fixed");
    }
    int before = symbols.rank(symbol);
    symbols.moveTo(symbol, rank);
    return before;
  }

  public int rankOf(int symbol) throws IndexOutOfBoundsException {
    if (!symbols.has(symbol)) {
      throw new IndexOutOfBoundsException("no such symbol");
    }
    return symbols.rank(symbol);
  }

  public boolean setDirection(int symbol, boolean isFromRight)
      throws IndexOutOfBoundsException, IllegalStateException {
    if (!symbols.has(symbol)) {
      throw new IndexOutOfBoundsException("no such symbol");
    }
    if (symbols.isOrderFixed()) {
      throw new IllegalStateException("the order is fixed");
    }
    boolean before = symbols.isFromRight(symbol);
    symbols.direct(symbol, isFromRight);
    return before;
  }

  // ---- terms

  public int term(int symbol, int x, int y, int z)
      throws IndexOutOfBoundsException, ArithmeticException {
    int arity = symbols.arity(symbol);
    if (!symbols.has(symbol)
        || (arity > 0 && !isTerm(x))
        || (arity > 1 && !isTerm(y))
        || (arity > 2 && !isTerm(z))) {
      throw new IndexOutOfBoundsException("no such symbol or term");
    }
    tidy();
    int node =
        store.make(
            symbol,
            arity > 0 ? numbered.get(x) : NONE,
            arity > 1 ? numbered.get(y) : NONE,
            arity > 2 ? numbered.get(z) : NONE);
    if (store.isTooLarge(node)) {
      throw new ArithmeticException("the term is too large");
    }
    return giveNumber(node);
  }

  public int read() throws IllegalArgumentException {
    tidy();
    int node = reader.readTerm();
    if (node < 0) {
      throw new IllegalArgumentException("the text has an error");
    }
    return giveNumber(node);
  }

  public int errorKind() {
    return reader.kind();
  }

  public int errorPosition() {
    return reader.position();
  }

  public int termCount() {
    return numberedCount;
  }

  public int symbolOf(int t) throws IndexOutOfBoundsException {
    if (!isTerm(t)) {
      throw new IndexOutOfBoundsException("no such term");
    }
    return store.symbol(numbered.get(t));
  }

  public int argument(int t, int i) throws IndexOutOfBoundsException {
    if (!isTerm(t) || i < 0 || i >= store.arity(numbered.get(t))) {
      throw new IndexOutOfBoundsException("no such term or argument");
    }
    return giveNumber(store.part(numbered.get(t), i));
  }

  public int size(int t) throws IndexOutOfBoundsException {
    if (!isTerm(t)) {
      throw new IndexOutOfBoundsException("no such term");
    }
    return store.width(numbered.get(t));
  }

  public int depth(int t) throws IndexOutOfBoundsException {
    if (!isTerm(t)) {
      throw new IndexOutOfBoundsException("no such term");
    }
    return store.height(numbered.get(t));
  }

  public int compare(int s, int t) throws IndexOutOfBoundsException {
    if (!isTerm(s) || !isTerm(t)) {
      throw new IndexOutOfBoundsException("no such term");
    }
    if (s == t) {
      return 0;
    }
    walk.clear();
    walk.add(numbered.get(s));
    walk.add(numbered.get(t));
    grammar.takeTerms(walk, store);
    grammar.rank(symbols.orderMode());
    int first = grammar.position(walk.indexOf(numbered.get(s)));
    int second = grammar.position(walk.indexOf(numbered.get(t)));
    return first > second ? 1 : -1;
  }

  public int occurrences(int s, int t) throws IndexOutOfBoundsException {
    if (!isTerm(s) || !isTerm(t)) {
      throw new IndexOutOfBoundsException("no such term");
    }
    return walk.countIn(numbered.get(s), numbered.get(t));
  }

  public int replace(int t, int s, int r) throws IndexOutOfBoundsException, ArithmeticException {
    if (!isTerm(t) || !isTerm(s) || !isTerm(r)) {
      throw new IndexOutOfBoundsException("no such term");
    }
    tidy();
    int node = walk.exchangeIn(numbered.get(t), numbered.get(s), numbered.get(r));
    if (store.isTooLarge(node)) {
      throw new ArithmeticException("the term is too large");
    }
    return giveNumber(node);
  }

  public int write(int t) throws IndexOutOfBoundsException, ArithmeticException {
    if (!isTerm(t)) {
      throw new IndexOutOfBoundsException("no such term");
    }
    int node = numbered.get(t);
    if (printer.measure(node) > MOST_OUTPUT) {
      throw new ArithmeticException("the output would be too long");
    }
    return printer.print(node);
  }

  public int outputByte(int i) throws IndexOutOfBoundsException {
    if (i < 0 || i >= printer.length()) {
      throw new IndexOutOfBoundsException("no such byte");
    }
    return printer.byteAt(i);
  }

  // ---- theory

  public int equate(int s, int t)
      throws IndexOutOfBoundsException,
          IllegalArgumentException,
          IllegalStateException,
          ArithmeticException {
    if (!isTerm(s) || !isTerm(t)) {
      throw new IndexOutOfBoundsException("no such term");
    }
    if (!store.isGround(numbered.get(s)) || !store.isGround(numbered.get(t))) {
      throw new IllegalArgumentException("a term is not ground");
    }
    if (theory.equationCount >= MOST_STATEMENTS) {
      throw new IllegalStateException("there are too many equations");
    }
    tidy();
    theory.addEquation(numbered.get(s), numbered.get(t));
    if (!theory.complete()) {
      theory.goBack(theory.equationCount - 1, theory.separationCount);
      throw new ArithmeticException("a rule would be too large");
    }
    return theory.equationCount - 1;
  }

  public int separate(int s, int t)
      throws IndexOutOfBoundsException, IllegalArgumentException, IllegalStateException {
    if (!isTerm(s) || !isTerm(t)) {
      throw new IndexOutOfBoundsException("no such term");
    }
    if (!store.isGround(numbered.get(s)) || !store.isGround(numbered.get(t))) {
      throw new IllegalArgumentException("a term is not ground");
    }
    if (theory.separationCount >= MOST_STATEMENTS) {
      throw new IllegalStateException("there are too many separations");
    }
    theory.addSeparation(numbered.get(s), numbered.get(t));
    return theory.separationCount - 1;
  }

  public int readTheory()
      throws IllegalArgumentException, IllegalStateException, ArithmeticException {
    tidy();
    if (!reader.readTheoryText()) {
      throw new IllegalArgumentException("the text has an error");
    }
    int equations = theory.equationCount;
    int separations = theory.separationCount;
    int outcome = Theory.ADDED;
    for (int i = 0; i < reader.statementCount() && outcome == Theory.ADDED; i++) {
      outcome = theory.addStatement(reader.isEquation(i), reader.leftTerm(i), reader.rightTerm(i));
      if (outcome == Theory.ADDED && reader.isEquation(i) && !theory.complete()) {
        outcome = Theory.TOO_LARGE;
      }
    }
    if (outcome != Theory.ADDED) {
      theory.goBack(equations, separations);
      theory.complete();
    }
    if (outcome == Theory.TOO_MANY) {
      throw new IllegalStateException("there are too many equations or separations");
    }
    if (outcome == Theory.TOO_LARGE) {
      throw new ArithmeticException("a rule would be too large");
    }
    if (reader.statementCount() > 0) {
      symbols.fixOrder();
    }
    return reader.statementCount();
  }

  public int equationCount() {
    return theory.equationCount;
  }

  public int separationCount() {
    return theory.separationCount;
  }

  public boolean isConsistent() {
    tidy();
    return theory.firstConflict() == NONE;
  }

  public int conflict() throws NoSuchElementException {
    tidy();
    int first = theory.firstConflict();
    if (first == NONE) {
      throw new NoSuchElementException("no separation is violated");
    }
    return first;
  }

  public int push() throws IllegalStateException {
    if (theory.levelCount >= MOST_LEVELS) {
      throw new IllegalStateException("there are too many levels");
    }
    theory.openLevel();
    return theory.levelCount;
  }

  public int pop() throws IllegalStateException {
    if (theory.levelCount <= 0) {
      throw new IllegalStateException("there is no level");
    }
    tidy();
    theory.closeLevel();
    theory.complete();
    return theory.levelCount;
  }

  // ---- rules and equality

  public int ruleCount() {
    return theory.ruleCount;
  }

  public int ruleLeft(int i) throws IndexOutOfBoundsException {
    if (i < 0 || i >= theory.ruleCount) {
      throw new IndexOutOfBoundsException("no such rule");
    }
    return giveNumber(theory.leftSide(i));
  }

  public int ruleRight(int i) throws IndexOutOfBoundsException {
    if (i < 0 || i >= theory.ruleCount) {
      throw new IndexOutOfBoundsException("no such rule");
    }
    return giveNumber(theory.rightSide(i));
  }

  public int normalForm(int t) throws IndexOutOfBoundsException, ArithmeticException {
    if (!isTerm(t)) {
      throw new IndexOutOfBoundsException("no such term");
    }
    tidy();
    int node = theory.normalize(numbered.get(t));
    if (store.isTooLarge(node)) {
      throw new ArithmeticException("the normal form is too large");
    }
    return giveNumber(node);
  }

  public boolean areEqual(int s, int t) throws IndexOutOfBoundsException {
    if (!isTerm(s) || !isTerm(t)) {
      throw new IndexOutOfBoundsException("no such term");
    }
    tidy();
    return theory.makesEqual(numbered.get(s), numbered.get(t));
  }

  public boolean dependsOn(int s, int t, int e) throws IndexOutOfBoundsException {
    if (!isTerm(s) || !isTerm(t) || e < 0 || e >= theory.equationCount) {
      throw new IndexOutOfBoundsException("no such term or equation");
    }
    tidy();
    return theory.makesEqual(numbered.get(s), numbered.get(t))
        && !theory.makesEqualWithout(e, numbered.get(s), numbered.get(t));
  }

  public int stepCount(int t) throws IndexOutOfBoundsException {
    if (!isTerm(t)) {
      throw new IndexOutOfBoundsException("no such term");
    }
    tidy();
    return theory.countSteps(numbered.get(t));
  }

  public int afterSteps(int t, int k) throws IndexOutOfBoundsException, ArithmeticException {
    if (!isTerm(t)) {
      throw new IndexOutOfBoundsException("no such term");
    }
    tidy();
    if (k < 0 || k > theory.countSteps(numbered.get(t))) {
      throw new IndexOutOfBoundsException("there are not so many steps");
    }
    int node = theory.makeSteps(numbered.get(t), k);
    if (store.isTooLarge(node)) {
      throw new ArithmeticException("the term is too large");
    }
    return giveNumber(node);
  }

  // ---- classes

  public long countOfSize(int t, int n) throws IndexOutOfBoundsException, IllegalArgumentException {
    if (!isTerm(t)) {
      throw new IndexOutOfBoundsException("no such term");
    }
    if (n < 1 || n > MOST_COUNTED) {
      throw new IllegalArgumentException("the size is not 1 to 12");
    }
    tidy();
    return search.countEqual(theory.normalize(numbered.get(t)), n);
  }

  public boolean isFinite(int t) throws IndexOutOfBoundsException {
    if (!isTerm(t)) {
      throw new IndexOutOfBoundsException("no such term");
    }
    tidy();
    return search.hasFiniteClass(theory.normalize(numbered.get(t)));
  }

  public int smallest(int t) throws IndexOutOfBoundsException, ArithmeticException {
    if (!isTerm(t)) {
      throw new IndexOutOfBoundsException("no such term");
    }
    tidy();
    int node = search.leastOfSmallest(theory.normalize(numbered.get(t)));
    if (node < 0) {
      throw new ArithmeticException("the smallest term is too large");
    }
    return giveNumber(node);
  }

  public int match(int pattern, int t)
      throws IndexOutOfBoundsException, IllegalArgumentException, ArithmeticException {
    if (!isTerm(pattern) || !isTerm(t)) {
      throw new IndexOutOfBoundsException("no such term");
    }
    if (!store.isGround(numbered.get(t)) || store.width(numbered.get(pattern)) > MOST_PATTERN) {
      throw new IllegalArgumentException("the term is not ground, or the pattern is too large");
    }
    tidy();
    int count = matcher.solve(numbered.get(pattern), numbered.get(t));
    if (count > MOST_SOLUTIONS) {
      throw new ArithmeticException("there are too many solutions");
    }
    matcher.keepFound();
    return count;
  }

  public int solution(int k, int variable)
      throws IndexOutOfBoundsException, NoSuchElementException, ArithmeticException {
    if (k < 0 || k >= matcher.keptCount || !symbols.has(variable)) {
      throw new IndexOutOfBoundsException("no such solution or symbol");
    }
    int ordinal = symbols.variableOrdinal(variable);
    if (!matcher.assigns(ordinal)) {
      throw new NoSuchElementException("the pattern has no such variable");
    }
    int node = matcher.assigned(k, ordinal);
    if (store.isTooLarge(node)) {
      throw new ArithmeticException("the term is too large");
    }
    return giveNumber(node);
  }

  public long digest() {
    long d = 17 * 31L + symbols.count();
    for (int i = 0; i < symbols.count(); i++) {
      d = d * 31 + symbols.rank(i);
    }
    d = d * 31 + numberedCount;
    d = d * 31 + theory.equationCount;
    d = d * 31 + theory.separationCount;
    d = d * 31 + theory.levelCount;
    d = d * 31 + theory.ruleCount;
    for (int i = 0; i < theory.ruleCount; i++) {
      d = d * 31 + store.width(theory.leftSide(i));
      d = d * 31 + store.width(theory.rightSide(i));
    }
    return d;
  }

  // ---- what the calls share

  private boolean isTerm(int t) {
    return t >= 0 && t < numberedCount;
  }

  private int giveNumber(int node) {
    int number = store.number(node);
    if (number == NONE) {
      number = numberedCount;
      store.setNumber(node, number);
      numbered.set(number, node);
      numberedCount++;
      symbols.fixOrder();
    }
    return number;
  }

  /** Only these terms are needed when a call begins; all others may go when the store is crowded. */
  private void tidy() {
    if (!store.isCrowded()) {
      return;
    }
    for (int i = 0; i < numberedCount; i++) {
      store.mark(numbered.get(i));
    }
    theory.markTerms();
    matcher.markTerms();
    store.dropUnmarked();
  }

  /** A row of ints, 0 where nothing was set. It is made block by block, as most rows stay short. */
  private static final class Row {
    private static final int BLOCK_BITS = 10;
    private static final int BLOCK = 1 << BLOCK_BITS;

    private final int[][] blocks;

    Row(int mostCells) {
      blocks = new int[(Math.max(mostCells, 0) >> BLOCK_BITS) + 1][];
    }

    int get(int i) {
      int b = i >> BLOCK_BITS;
      if (b < 0 || b >= blocks.length || blocks[b] == null) {
        return 0;
      }
      return blocks[b][i & (BLOCK - 1)];
    }

    void set(int i, int value) {
      int b = i >> BLOCK_BITS;
      if (b < 0 || b >= blocks.length) {
        return;
      }
      if (blocks[b] == null) {
        blocks[b] = new int[BLOCK];
      }
      blocks[b][i & (BLOCK - 1)] = value;
    }
  }

  /** The symbols and what the order of terms knows of them. */
  private static final class Symbols {
    private final byte[] names = new byte[MOST_SYMBOLS * MOST_NAME];
    private final int[] lengths = new int[MOST_SYMBOLS];
    private final int[] arities = new int[MOST_SYMBOLS];
    private final int[] weights = new int[MOST_SYMBOLS];
    private final int[] ranks = new int[MOST_SYMBOLS];
    private final int[] ordinals = new int[MOST_SYMBOLS];
    private final boolean[] directions = new boolean[MOST_SYMBOLS];
    private int count;
    private int variableCount;
    private boolean isByWeight;
    private boolean isOrderFixed;

    int count() {
      return count;
    }

    boolean has(int symbol) {
      return symbol >= 0 && symbol < count;
    }

    boolean isFull() {
      return count >= MOST_SYMBOLS;
    }

    boolean hasAllVariables() {
      return variableCount >= MOST_VARIABLES;
    }

    int arity(int symbol) {
      return symbol >= 0 && symbol < count ? arities[symbol] : 0;
    }

    int weight(int symbol) {
      return symbol >= 0 && symbol < count ? weights[symbol] : 0;
    }

    int rank(int symbol) {
      return symbol >= 0 && symbol < count ? ranks[symbol] : 0;
    }

    boolean isFromRight(int symbol) {
      return symbol >= 0 && symbol < count && directions[symbol];
    }

    /** The variables are counted from 0 in the order of their symbols; NONE for other symbols. */
    int variableOrdinal(int symbol) {
      return symbol >= 0 && symbol < count ? ordinals[symbol] : NONE;
    }

    int nameLength(int symbol) {
      return symbol >= 0 && symbol < count ? lengths[symbol] : 0;
    }

    byte nameByte(int symbol, int i) {
      boolean isThere = symbol >= 0 && symbol < count && i >= 0 && i < lengths[symbol];
      return isThere ? names[symbol * MOST_NAME + i] : 0;
    }

    int add(byte[] bytes, int length, int arity, int weight) {
      if (count >= MOST_SYMBOLS || length > MOST_NAME || length > bytes.length) {
        return NONE;
      }
      int symbol = count;
      for (int i = 0; i < length; i++) {
        names[symbol * MOST_NAME + i] = bytes[i];
      }
      lengths[symbol] = length;
      arities[symbol] = arity;
      weights[symbol] = weight;
      ranks[symbol] = symbol;
      ordinals[symbol] = NONE;
      count++;
      return symbol;
    }

    int addVariable(byte[] bytes, int length) {
      int symbol = add(bytes, length, 0, 1);
      if (symbol >= 0 && symbol < MOST_SYMBOLS) {
        ordinals[symbol] = variableCount;
        variableCount++;
      }
      return symbol;
    }

    /** The symbol whose name stands in the bytes from start on, or NONE. */
    int find(byte[] bytes, int start, int length) {
      if (start < 0 || length < 1 || length > MOST_NAME || start + length > bytes.length) {
        return NONE;
      }
      for (int symbol = 0; symbol < count; symbol++) {
        if (lengths[symbol] == length && isNameAt(symbol, bytes, start)) {
          return symbol;
        }
      }
      return NONE;
    }

    private boolean isNameAt(int symbol, byte[] bytes, int start) {
      for (int i = 0; i < nameLength(symbol); i++) {
        int at = start + i;
        if (at < 0 || at >= bytes.length || bytes[at] != nameByte(symbol, i)) {
          return false;
        }
      }
      return true;
    }

    boolean isByWeight() {
      return isByWeight;
    }

    int orderMode() {
      return isByWeight ? BY_WEIGHT : BY_PATH;
    }

    void chooseOrder(boolean byWeight) {
      isByWeight = byWeight;
    }

    boolean isOrderFixed() {
      return isOrderFixed;
    }

    void fixOrder() {
      isOrderFixed = true;
    }

    void direct(int symbol, boolean isFromRight) {
      if (symbol >= 0 && symbol < count) {
        directions[symbol] = isFromRight;
      }
    }

    void moveTo(int symbol, int rank) {
      if (symbol < 0 || symbol >= count) {
        return;
      }
      int before = ranks[symbol];
      for (int i = 0; i < count; i++) {
        if (ranks[i] > before && ranks[i] <= rank) {
          ranks[i]--;
        } else if (ranks[i] < before && ranks[i] >= rank) {
          ranks[i]++;
        }
      }
      ranks[symbol] = rank;
    }
  }

  /**
   * All terms, each one once. Sizes, depths and the mark of a variable share a row, as there can be
   * several hundred thousand nodes. A size or a depth at its bound is too large for every purpose.
   */
  private static final class TermStore {
    private static final int BUCKETS = 1 << 15;
    private static final int ROOMY = 4096;
    private static final int MOST_WIDTH = (1 << 22) - 1;
    private static final int MOST_HEIGHT = 255;
    private static final int MARKED = -1;

    private final Symbols symbols;
    private final Row signs = new Row(MOST_NODES);
    private final Row parts = new Row(MOST_PARTS * MOST_NODES);
    private final Row extents = new Row(MOST_NODES);
    private final Row numbers = new Row(MOST_NODES);
    private final Row links = new Row(MOST_NODES);
    private final Row buckets = new Row(BUCKETS);
    private final int[] pending = new int[MOST_PARTS * MOST_OPEN_NODES];
    private int pendingCount;
    private int top;
    private int used;
    private int freeLink;
    private int crowd = ROOMY;

    TermStore(Symbols symbols) {
      this.symbols = symbols;
    }

    int symbol(int node) {
      return signs.get(node);
    }

    int arity(int node) {
      return symbols.arity(signs.get(node));
    }

    int part(int node, int i) {
      return node < 0 ? NONE : parts.get(MOST_PARTS * node + i);
    }

    int width(int node) {
      return extents.get(node) >>> 9;
    }

    int height(int node) {
      return (extents.get(node) >>> 1) & MOST_HEIGHT;
    }

    boolean isGround(int node) {
      return (extents.get(node) & 1) == 0;
    }

    int variableOrdinal(int node) {
      return symbols.variableOrdinal(signs.get(node));
    }

    boolean isTooLarge(int node) {
      return width(node) > LARGEST_TERM || height(node) > DEEPEST_TERM;
    }

    int number(int node) {
      return numbers.get(node) - 1;
    }

    void setNumber(int node, int number) {
      numbers.set(node, number + 1);
    }

    /** The node of a term, given by its symbol and its arguments; NONE stands where there is none. */
    int make(int symbol, int a, int b, int c) {
      int bucket = bucketOf(symbol, a, b, c);
      int node = buckets.get(bucket) - 1;
      for (int i = 0; i < top && node >= 0; i++) {
        int first = MOST_PARTS * node;
        if (signs.get(node) == symbol
            && parts.get(first) == a
            && parts.get(first + 1) == b
            && parts.get(first + 2) == c) {
          return node;
        }
        node = links.get(node) - 1;
      }
      return keep(symbol, a, b, c, bucket);
    }

    private int bucketOf(int symbol, int a, int b, int c) {
      int hash = ((symbol * 31 + a) * 8191 + b) * 131071 + c;
      hash ^= hash >>> 15;
      hash *= 0x2c1b3c6d;
      hash ^= hash >>> 13;
      return hash & (BUCKETS - 1);
    }

    private int keep(int symbol, int a, int b, int c, int bucket) {
      int node = freeLink - 1;
      if (node >= 0) {
        freeLink = links.get(node);
      } else if (top < MOST_NODES) {
        node = top;
        top++;
      } else {
        // The calls of one object cannot make so many terms.
        return 0;
      }
      used++;
      signs.set(node, symbol);
      parts.set(MOST_PARTS * node, a);
      parts.set(MOST_PARTS * node + 1, b);
      parts.set(MOST_PARTS * node + 2, c);
      int open = symbols.variableOrdinal(symbol) == NONE ? 0 : 1;
      extents.set(node, extentOver(open, extents.get(a), extents.get(b), extents.get(c)));
      links.set(node, buckets.get(bucket));
      buckets.set(bucket, node + 1);
      return node;
    }

    /** The extent of a term over those of its arguments; that of an argument not there is 0. */
    private int extentOver(int open, int a, int b, int c) {
      int width = Math.min(1 + (a >>> 9) + (b >>> 9) + (c >>> 9), MOST_WIDTH);
      int highest = Math.max((a >>> 1) & MOST_HEIGHT, (b >>> 1) & MOST_HEIGHT);
      int height = Math.min(1 + Math.max(highest, (c >>> 1) & MOST_HEIGHT), MOST_HEIGHT);
      return width << 9 | height << 1 | open | ((a | b | c) & 1);
    }

    boolean isCrowded() {
      return used > crowd;
    }

    /** Until dropUnmarked the links are no use but as marks, as the buckets are made anew then. */
    void mark(int root) {
      pendingCount = 0;
      markOne(root);
      for (int n = 0; n < MOST_NODES && pendingCount > 0 && pendingCount <= pending.length; n++) {
        pendingCount--;
        int node = pending[pendingCount];
        for (int i = 0; i < arity(node); i++) {
          markOne(parts.get(MOST_PARTS * node + i));
        }
      }
    }

    private void markOne(int node) {
      if (node < 0 || links.get(node) == MARKED) {
        return;
      }
      links.set(node, MARKED);
      if (pendingCount >= 0 && pendingCount < pending.length) {
        pending[pendingCount] = node;
        pendingCount++;
      }
    }

    void dropUnmarked() {
      for (int i = 0; i < BUCKETS; i++) {
        buckets.set(i, 0);
      }
      freeLink = 0;
      used = 0;
      for (int node = 0; node < top; node++) {
        if (links.get(node) == MARKED) {
          relink(node);
          used++;
        } else {
          links.set(node, freeLink);
          freeLink = node + 1;
        }
      }
      crowd = used + ROOMY;
    }

    private void relink(int node) {
      int first = MOST_PARTS * node;
      int bucket =
          bucketOf(signs.get(node), parts.get(first), parts.get(first + 1), parts.get(first + 2));
      links.set(node, buckets.get(bucket));
      buckets.set(bucket, node + 1);
    }
  }

  /** A list of different nodes, each one behind its arguments where add was used, with results. */
  private static final class Walk {
    private final TermStore store;
    private final Row slots = new Row(MOST_NODES);
    private final Row nodes = new Row(MOST_LISTED);
    private final Row values = new Row(MOST_LISTED);
    private final Row tallies = new Row(MOST_LISTED);
    private final int[] open = new int[MOST_OPEN_NODES];
    private int count;

    Walk(TermStore store) {
      this.store = store;
    }

    int count() {
      return count;
    }

    int node(int i) {
      return nodes.get(i);
    }

    int value(int i) {
      return values.get(i);
    }

    void setValue(int i, int value) {
      values.set(i, value);
    }

    int tally(int i) {
      return tallies.get(i);
    }

    void setTally(int i, int tally) {
      tallies.set(i, tally);
    }

    void clear() {
      count = 0;
    }

    /** A slot may be left from an earlier list, so the list itself must say that the node is there. */
    int indexOf(int node) {
      int slot = node < 0 ? NONE : slots.get(node);
      return slot >= 0 && slot < count && nodes.get(slot) == node ? slot : NONE;
    }

    /** Where the argument of a listed node stands. */
    int partOf(int i, int k) {
      return indexOf(store.part(nodes.get(i), k));
    }

    /** Lists a node behind all that it is made of. */
    void add(int root) {
      int last = NONE;
      if (root >= 0 && indexOf(root) == NONE) {
        last = 0;
        open[0] = root;
      }
      for (int n = 0; n < 2 * MOST_NODES && last >= 0 && last + 1 < MOST_OPEN_NODES; n++) {
        int part = firstUnlisted(open[last]);
        if (part == NONE) {
          append(open[last]);
          last--;
        } else {
          last++;
          open[last] = part;
        }
      }
    }

    private int firstUnlisted(int node) {
      for (int k = 0; k < store.arity(node); k++) {
        int part = store.part(node, k);
        if (indexOf(part) == NONE) {
          return part;
        }
      }
      return NONE;
    }

    void append(int node) {
      if (node >= 0 && indexOf(node) == NONE) {
        slots.set(node, count);
        nodes.set(count, node);
        count++;
      }
    }

    int countIn(int sought, int root) {
      clear();
      add(root);
      for (int i = 0; i < count; i++) {
        int tally = nodes.get(i) == sought ? 1 : sumOfParts(i);
        tallies.set(i, tally);
      }
      return tallies.get(count - 1);
    }

    int sumOfParts(int i) {
      int sum = 0;
      for (int k = 0; k < store.arity(nodes.get(i)); k++) {
        sum += tallies.get(partOf(i, k));
      }
      return sum;
    }

    int exchangeIn(int root, int old, int other) {
      clear();
      add(root);
      for (int i = 0; i < count; i++) {
        values.set(i, nodes.get(i) == old ? other : rebuild(i));
      }
      return values.get(count - 1);
    }

    /** The listed node with the values of its arguments in their places. */
    int rebuild(int i) {
      int node = nodes.get(i);
      int arity = store.arity(node);
      int a = arity > 0 ? values.get(partOf(i, 0)) : NONE;
      int b = arity > 1 ? values.get(partOf(i, 1)) : NONE;
      int c = arity > 2 ? values.get(partOf(i, 2)) : NONE;
      return store.make(store.symbol(node), a, b, c);
    }
  }

  /** The input buffer and the reading of texts from left to right. */
  private static final class Reader {
    private static final int MORE = -2;
    // A statement has at least two names, a sign between them and a semicolon.
    private static final int MOST_READ = MOST_INPUT / 4;

    private final Symbols symbols;
    private final TermStore store;
    private final byte[] input = new byte[MOST_INPUT];
    private int length;
    private int end;
    private int at;
    private int nameStart;
    private boolean isTheory;
    private int kind;
    private int position = NONE;
    private final int[] openSymbols = new int[MOST_OPEN + 1];
    private final int[] openStarts = new int[MOST_OPEN + 1];
    private final int[] openCounts = new int[MOST_OPEN + 1];
    private final int[] openParts = new int[(MOST_OPEN + 1) * MOST_PARTS];
    private int openCount;
    private final int[] lefts = new int[MOST_READ];
    private final int[] rights = new int[MOST_READ];
    private final boolean[] areEquations = new boolean[MOST_READ];
    private int statementCount;

    Reader(Symbols symbols, TermStore store) {
      this.symbols = symbols;
      this.store = store;
    }

    int length() {
      return length;
    }

    byte[] bytes() {
      return input;
    }

    int kind() {
      return kind;
    }

    int position() {
      return position;
    }

    int statementCount() {
      return statementCount;
    }

    boolean isEquation(int i) {
      return i >= 0 && i < MOST_READ && areEquations[i];
    }

    int leftTerm(int i) {
      return i >= 0 && i < MOST_READ ? lefts[i] : NONE;
    }

    int rightTerm(int i) {
      return i >= 0 && i < MOST_READ ? rights[i] : NONE;
    }

    void append(int four) {
      for (int shift = 24; shift >= 0; shift -= 8) {
        if (length >= 0 && length < MOST_INPUT) {
          input[length] = (byte) (four >> shift);
          length++;
        }
      }
    }

    void shorten(int n) {
      length = n;
    }

    /** Empties the buffer; its bytes stay in the row until the next feed. */
    int drain() {
      int before = length;
      length = 0;
      return before;
    }

    boolean holdsName() {
      if (length < 1 || length > MOST_NAME || !isLetter(input[0])) {
        return false;
      }
      for (int i = 1; i < length; i++) {
        if (!isNamePart(input[i])) {
          return false;
        }
      }
      return true;
    }

    int heldSymbol() {
      return symbols.find(input, 0, length);
    }

    int readTerm() {
      start(false);
      int node = readOne();
      if (node >= 0) {
        skipBlanks();
        if (at < end) {
          node = fail(WRONG_FORM, at);
        }
      }
      return node;
    }

    boolean readTheoryText() {
      start(true);
      statementCount = 0;
      // Each round reads a statement, and so at least a byte.
      for (int i = 0; i <= end; i++) {
        skipBlanks();
        if (at >= end) {
          return true;
        }
        int left = readOne();
        int sign = left < 0 ? NONE : readSign();
        int right = sign < 0 ? NONE : readOne();
        if (right < 0 || !readSemicolon()) {
          return false;
        }
        keepStatement(left, sign == 1, right);
      }
      return true;
    }

    private void start(boolean asTheory) {
      isTheory = asTheory;
      end = drain();
      at = 0;
      kind = 0;
      position = NONE;
    }

    private void keepStatement(int left, boolean isEquation, int right) {
      if (statementCount >= 0 && statementCount < MOST_READ) {
        lefts[statementCount] = left;
        rights[statementCount] = right;
        areEquations[statementCount] = isEquation;
        statementCount++;
      }
    }

    private boolean readSemicolon() {
      skipBlanks();
      if (peek() != ';') {
        fail(WRONG_FORM, at);
        return false;
      }
      at++;
      return true;
    }

    /** 1 for an equation, 0 for a separation. */
    private int readSign() {
      skipBlanks();
      int sign = peek() == '!' ? 0 : 1;
      if (sign == 0) {
        at++;
      }
      if (peek() != '=') {
        return fail(WRONG_FORM, at);
      }
      at++;
      return sign;
    }

    private int readOne() {
      openCount = 0;
      // Each round reads a name, and so at least a byte.
      for (int i = 0; i <= end; i++) {
        int symbol = readName();
        if (symbol < 0) {
          return NONE;
        }
        if (peek() == '(') {
          if (symbols.arity(symbol) == 0) {
            return fail(WRONG_ARITY, nameStart);
          }
          open(symbol);
        } else if (symbols.arity(symbol) != 0) {
          return fail(WRONG_ARITY, nameStart);
        } else {
          int node = closeBehind(store.make(symbol, NONE, NONE, NONE));
          if (node != MORE) {
            return node;
          }
        }
      }
      return fail(WRONG_FORM, at);
    }

    private int readName() {
      skipBlanks();
      if (!isLetter(peek())) {
        return fail(WRONG_FORM, at);
      }
      nameStart = at;
      for (int i = 0; i < end && isNamePart(peek()); i++) {
        at++;
      }
      int symbol = symbols.find(input, nameStart, at - nameStart);
      if (symbol == NONE) {
        return fail(UNKNOWN_NAME, nameStart);
      }
      if (isTheory && symbols.variableOrdinal(symbol) != NONE) {
        return fail(NAME_OF_VARIABLE, nameStart);
      }
      if (openCount > MOST_OPEN) {
        return fail(TOO_MANY_OPEN, nameStart);
      }
      skipBlanks();
      return symbol;
    }

    private void open(int symbol) {
      at++;
      if (openCount >= 0 && openCount <= MOST_OPEN) {
        openSymbols[openCount] = symbol;
        openStarts[openCount] = nameStart;
        openCounts[openCount] = 0;
        openCount++;
      }
    }

    /** Goes on behind a term: the term itself where nothing is open, MORE if an argument follows. */
    private int closeBehind(int term) {
      int node = term;
      for (int i = 0; i <= end && openCount > 0 && openCount <= MOST_OPEN + 1; i++) {
        int last = openCount - 1;
        addOpenPart(last, node);
        int arity = symbols.arity(openSymbols[last]);
        skipBlanks();
        if (peek() == ',') {
          at++;
          return openCounts[last] < arity ? MORE : fail(WRONG_ARITY, openStarts[last]);
        }
        if (peek() != ')') {
          return fail(WRONG_FORM, at);
        }
        if (openCounts[last] < arity) {
          return fail(WRONG_ARITY, openStarts[last]);
        }
        at++;
        int first = MOST_PARTS * last;
        int b = arity > 1 ? openParts[first + 1] : NONE;
        int c = arity > 2 ? openParts[first + 2] : NONE;
        node = store.make(openSymbols[last], openParts[first], b, c);
        openCount = last;
      }
      return node;
    }

    private void addOpenPart(int last, int node) {
      if (last < 0 || last > MOST_OPEN) {
        return;
      }
      int count = openCounts[last];
      if (count >= 0 && count < MOST_PARTS) {
        openParts[MOST_PARTS * last + count] = node;
        openCounts[last] = count + 1;
      }
    }

    private int fail(int newKind, int newPosition) {
      kind = newKind;
      position = newPosition;
      return NONE;
    }

    private void skipBlanks() {
      for (int i = 0; i < end && (peek() == ' ' || peek() == 10); i++) {
        at++;
      }
    }

    private int peek() {
      return at >= 0 && at < end && at < MOST_INPUT ? input[at] & 255 : NONE;
    }

    private boolean isLetter(int c) {
      return c >= 'a' && c <= 'z';
    }

    private boolean isNamePart(int c) {
      return isLetter(c) || (c >= '0' && c <= '9');
    }
  }

  /** The output. */
  private static final class Printer {
    private final Symbols symbols;
    private final TermStore store;
    private final Walk walk;
    private final byte[] output = new byte[MOST_OUTPUT];
    private int length;

    Printer(Symbols symbols, TermStore store, Walk walk) {
      this.symbols = symbols;
      this.store = store;
      this.walk = walk;
    }

    int length() {
      return length;
    }

    int byteAt(int i) {
      return i >= 0 && i < length && i < MOST_OUTPUT ? output[i] : 0;
    }

    int measure(int root) {
      walk.clear();
      walk.add(root);
      for (int i = 0; i < walk.count(); i++) {
        int node = walk.node(i);
        // The parentheses and the commas are one byte more than the arguments.
        int signs = store.arity(node) > 0 ? store.arity(node) + 1 : 0;
        walk.setTally(i, symbols.nameLength(store.symbol(node)) + signs + walk.sumOfParts(i));
      }
      return walk.tally(walk.count() - 1);
    }

    int print(int root) {
      length = 0;
      printFrom(root, 0);
      return length;
    }

    private void printFrom(int node, int level) {
      if (level > DEEPEST_TERM) {
        return;
      }
      int symbol = store.symbol(node);
      for (int i = 0; i < symbols.nameLength(symbol); i++) {
        put(symbols.nameByte(symbol, i));
      }
      for (int i = 0; i < store.arity(node); i++) {
        put((byte) (i == 0 ? '(' : ','));
        printFrom(store.part(node, i), level + 1);
      }
      if (store.arity(node) > 0) {
        put((byte) ')');
      }
    }

    private void put(byte sign) {
      if (length >= 0 && length < MOST_OUTPUT) {
        output[length] = sign;
        length++;
      }
    }
  }

  /**
   * Classes and what they are made of: a production says that its symbol, applied to terms of the
   * classes of its parts, is a term of its owner. Ranking finds the least term of each class.
   *
   * <p>Productions come out of the heap in ascending order of their least terms. All terms that have
   * come out are therefore less than any term of the heap, the parts of the terms in the heap among
   * them. So of the path order only the precedence and the places of the parts are left to look at,
   * and no two terms are ever compared in depth.
   */
  private static final class Grammar {
    private static final int HUGE = (1 << 20) - 1;

    private final Symbols symbols;
    private final Row owners = new Row(MOST_LISTED);
    private final Row signs = new Row(MOST_LISTED);
    private final Row parts = new Row(MOST_PARTS * MOST_LISTED);
    private final Row waits = new Row(MOST_LISTED);
    private final Row users = new Row(MOST_LISTED);
    private final Row nextUsers = new Row(MOST_PARTS * MOST_LISTED);
    private final Row weights = new Row(MOST_LISTED);
    private final Row sizes = new Row(MOST_LISTED);
    private final Row depths = new Row(MOST_LISTED);
    private final Row heap = new Row(MOST_LISTED);
    private final Row chosen = new Row(MOST_LISTED);
    private final Row positions = new Row(MOST_LISTED);
    private final Row sequence = new Row(MOST_LISTED);
    private final Row nodes = new Row(MOST_LISTED);
    private int classCount;
    private int count;
    private int heapCount;
    private int sequenceCount;
    private int mode;

    Grammar(Symbols symbols) {
      this.symbols = symbols;
    }

    void clear(int classes) {
      classCount = classes;
      count = 0;
    }

    int count() {
      return count;
    }

    int addProduction(int owner, int symbol) {
      int p = count;
      owners.set(p, owner);
      signs.set(p, symbol);
      count++;
      return p;
    }

    void setPart(int p, int i, int part) {
      parts.set(MOST_PARTS * p + i, part);
    }

    int owner(int p) {
      return owners.get(p);
    }

    int part(int p, int i) {
      return parts.get(MOST_PARTS * p + i);
    }

    int arity(int p) {
      return symbols.arity(signs.get(p));
    }

    /** Makes a class of each listed term. */
    void takeTerms(Walk walk, TermStore store) {
      clear(walk.count());
      for (int i = 0; i < walk.count(); i++) {
        int p = addProduction(i, store.symbol(walk.node(i)));
        for (int k = 0; k < arity(p); k++) {
          setPart(p, k, walk.partOf(i, k));
        }
      }
    }

    int sequenceCount() {
      return sequenceCount;
    }

    /** The production whose least term is the k-th of all. */
    int ranked(int k) {
      return sequence.get(k);
    }

    int position(int c) {
      return positions.get(c);
    }

    int choice(int c) {
      return chosen.get(c);
    }

    int termSize(int p) {
      return sizes.get(p);
    }

    int termDepth(int p) {
      return depths.get(p);
    }

    void rank(int newMode) {
      mode = newMode;
      heapCount = 0;
      sequenceCount = 0;
      linkUsers();
      for (int p = 0; p < count; p++) {
        waits.set(p, arity(p));
        if (arity(p) == 0) {
          enter(p);
        }
      }
      for (int i = 0; i < count && heapCount > 0; i++) {
        int p = takeLeast();
        int c = owners.get(p);
        sequence.set(i, p);
        sequenceCount = i + 1;
        if (chosen.get(c) == NONE) {
          chosen.set(c, p);
          positions.set(c, i);
          for (int use = users.get(c) - 1, n = 0; use >= 0 && n < MOST_PARTS * count; n++) {
            if (isReadyAfter(use)) {
              enter(use / MOST_PARTS);
            }
            use = nextUsers.get(use) - 1;
          }
        }
      }
    }

    /** Whether the place that is used was the last one for which a production had to wait. */
    private boolean isReadyAfter(int use) {
      int p = use / MOST_PARTS;
      waits.set(p, waits.get(p) - 1);
      return waits.get(p) == 0;
    }

    private void linkUsers() {
      for (int c = 0; c < classCount; c++) {
        users.set(c, 0);
        chosen.set(c, NONE);
      }
      for (int p = 0; p < count; p++) {
        for (int i = 0; i < arity(p); i++) {
          int use = MOST_PARTS * p + i;
          int c = parts.get(use);
          nextUsers.set(use, users.get(c));
          users.set(c, use + 1);
        }
      }
    }

    private void enter(int p) {
      int size = 1;
      int depth = 0;
      int weight = symbols.weight(signs.get(p));
      for (int i = 0; i < arity(p); i++) {
        int q = chosen.get(parts.get(MOST_PARTS * p + i));
        size += sizes.get(q);
        depth = Math.max(depth, depths.get(q));
        weight += weights.get(q);
      }
      sizes.set(p, Math.min(size, HUGE));
      depths.set(p, Math.min(depth + 1, HUGE));
      weights.set(p, mode == BY_WEIGHT ? Math.min(weight, HUGE) : mode == BY_SIZE ? size : 0);
      int at = heapCount;
      heapCount++;
      for (int i = 0; i < heapCount && at > 0; i++) {
        int above = (at - 1) / 2;
        if (!isBefore(p, heap.get(above))) {
          break;
        }
        heap.set(at, heap.get(above));
        at = above;
      }
      heap.set(at, p);
    }

    private int takeLeast() {
      int least = heap.get(0);
      heapCount--;
      int last = heap.get(heapCount);
      int at = 0;
      for (int i = 0; i < heapCount; i++) {
        int below = 2 * at + 1;
        if (below >= heapCount) {
          break;
        }
        if (below + 1 < heapCount && isBefore(heap.get(below + 1), heap.get(below))) {
          below++;
        }
        if (!isBefore(heap.get(below), last)) {
          break;
        }
        heap.set(at, heap.get(below));
        at = below;
      }
      heap.set(at, last);
      return least;
    }

    private boolean isBefore(int p, int q) {
      if (weights.get(p) != weights.get(q)) {
        return weights.get(p) < weights.get(q);
      }
      int symbol = signs.get(p);
      if (symbol != signs.get(q)) {
        return symbols.rank(symbol) < symbols.rank(signs.get(q));
      }
      int arity = symbols.arity(symbol);
      boolean isFromRight = symbols.isFromRight(symbol);
      for (int i = 0; i < arity; i++) {
        int k = isFromRight ? arity - 1 - i : i;
        int first = parts.get(MOST_PARTS * p + k);
        int second = parts.get(MOST_PARTS * q + k);
        if (first != second) {
          return positions.get(first) < positions.get(second);
        }
      }
      return false;
    }

    /** Leaves only the productions that make the smallest terms; to be called after rank(BY_SIZE). */
    void keepSmallest() {
      int kept = 0;
      for (int p = 0; p < count; p++) {
        if (sizes.get(p) == sizes.get(chosen.get(owners.get(p)))) {
          owners.set(kept, owners.get(p));
          signs.set(kept, signs.get(p));
          for (int i = 0; i < MOST_PARTS; i++) {
            parts.set(MOST_PARTS * kept + i, parts.get(MOST_PARTS * p + i));
          }
          kept++;
        }
      }
      count = kept;
    }

    /** The least term of a production, from the least terms of the classes before it. */
    int makeTerm(int p, TermStore store) {
      int first = MOST_PARTS * p;
      int arity = arity(p);
      int a = arity > 0 ? nodes.get(parts.get(first)) : NONE;
      int b = arity > 1 ? nodes.get(parts.get(first + 1)) : NONE;
      int c = arity > 2 ? nodes.get(parts.get(first + 2)) : NONE;
      return store.make(signs.get(p), a, b, c);
    }

    int leastTerm(int c) {
      return nodes.get(c);
    }

    void setLeastTerm(int c, int node) {
      nodes.set(c, node);
    }

    /** From here on no class is needed; which are is said by need and spreadNeeds. */
    void dropNeeds() {
      for (int c = 0; c < classCount; c++) {
        waits.set(c, 0);
      }
    }

    void need(int c) {
      waits.set(c, 1);
    }

    void needParts(int p) {
      for (int i = 0; i < arity(p); i++) {
        waits.set(parts.get(MOST_PARTS * p + i), 1);
      }
    }

    /** What a least term is made of is needed with it, and comes before it. */
    void spreadNeeds() {
      for (int k = sequenceCount - 1; k >= 0; k--) {
        int p = sequence.get(k);
        if (isNeeded(p)) {
          needParts(p);
        }
      }
    }

    /** Whether a production makes the least term of a class that is needed. */
    boolean isNeeded(int p) {
      int c = owners.get(p);
      return chosen.get(c) == p && waits.get(c) == 1;
    }

    /** Whether a class has finitely many terms: those of its parts, and of theirs, come to an end. */
    boolean isFiniteClass(int c) {
      linkUsers();
      for (int i = 0; i < classCount; i++) {
        waits.set(i, 0);
      }
      for (int p = 0; p < count; p++) {
        int owner = owners.get(p);
        waits.set(owner, waits.get(owner) + arity(p));
      }
      sequenceCount = 0;
      for (int i = 0; i < classCount; i++) {
        endIfReady(i);
      }
      for (int k = 0; k < sequenceCount && k < classCount; k++) {
        releaseUsers(sequence.get(k));
      }
      return chosen.get(c) != NONE;
    }

    private void endIfReady(int c) {
      if (waits.get(c) == 0) {
        chosen.set(c, c);
        sequence.set(sequenceCount, c);
        sequenceCount++;
      }
    }

    private void releaseUsers(int c) {
      int use = users.get(c) - 1;
      for (int i = 0; i < MOST_PARTS * count && use >= 0; i++) {
        int owner = owners.get(use / MOST_PARTS);
        waits.set(owner, waits.get(owner) - 1);
        endIfReady(owner);
        use = nextUsers.get(use) - 1;
      }
    }
  }

  /**
   * The congruence closure over the terms of a walk, which lists arguments before the terms. A class
   * is named by one of its terms, its leader, which is kept for each term, so that it is at hand.
   */
  private static final class Closure {
    private static final int FEWEST_BUCKETS = 64;
    private static final int MOST_BUCKETS = 1 << 14;

    private final TermStore store;
    private final Walk walk;
    private final Row leaders = new Row(MOST_LISTED);
    private final Row nextMembers = new Row(MOST_LISTED);
    private final Row memberCounts = new Row(MOST_LISTED);
    private final Row twins = new Row(MOST_LISTED);
    private final Row signs = new Row(MOST_LISTED);
    private final Row parts = new Row(MOST_PARTS * MOST_LISTED);
    private final Row buckets = new Row(MOST_BUCKETS);
    private final Row links = new Row(MOST_LISTED);
    private int bucketCount;

    Closure(TermStore store, Walk walk) {
      this.store = store;
      this.walk = walk;
    }

    /** Each term of the walk alone in its class. */
    void start() {
      bucketCount = FEWEST_BUCKETS;
      for (int i = 0; i < walk.count(); i++) {
        leaders.set(i, i);
        nextMembers.set(i, i);
        memberCounts.set(i, 1);
        signs.set(i, store.symbol(walk.node(i)));
        for (int k = 0; k < MOST_PARTS; k++) {
          parts.set(MOST_PARTS * i + k, walk.partOf(i, k));
        }
        if (i > bucketCount && bucketCount < MOST_BUCKETS) {
          bucketCount *= 2;
        }
      }
    }

    int leader(int i) {
      return leaders.get(i);
    }

    /** The smaller class takes the leader of the larger one, so that few leaders are set anew. */
    void join(int i, int j) {
      int first = leaders.get(i);
      int second = leaders.get(j);
      if (first == second) {
        return;
      }
      if (memberCounts.get(first) < memberCounts.get(second)) {
        first = second;
        second = leaders.get(i);
      }
      int member = second;
      for (int n = 0; n < memberCounts.get(second); n++) {
        leaders.set(member, first);
        member = nextMembers.get(member);
      }
      memberCounts.set(first, memberCounts.get(first) + memberCounts.get(second));
      int next = nextMembers.get(first);
      nextMembers.set(first, nextMembers.get(second));
      nextMembers.set(second, next);
    }

    void close() {
      for (int n = 0; n <= walk.count(); n++) {
        if (!joinTwins()) {
          return;
        }
      }
    }

    /** Joins terms of the same symbol whose arguments are equal; whether there were any. */
    private boolean joinTwins() {
      boolean isChanged = false;
      for (int i = 0; i < bucketCount; i++) {
        buckets.set(i, 0);
      }
      for (int i = 0; i < walk.count(); i++) {
        int bucket = bucketOf(i);
        int twin = buckets.get(bucket) - 1;
        for (int n = 0; n < walk.count() && twin >= 0 && !areTwins(i, twin); n++) {
          twin = links.get(twin) - 1;
        }
        twins.set(i, twin < 0 ? 0 : 1);
        if (twin < 0) {
          links.set(i, buckets.get(bucket));
          buckets.set(bucket, i + 1);
        } else if (leaders.get(twin) != leaders.get(i)) {
          join(twin, i);
          isChanged = true;
        }
      }
      return isChanged;
    }

    private int bucketOf(int i) {
      int hash = signs.get(i);
      for (int k = 0; k < MOST_PARTS; k++) {
        hash = hash * 8191 + leaders.get(parts.get(MOST_PARTS * i + k));
      }
      hash *= 0x2c1b3c6d;
      hash ^= hash >>> 15;
      return hash & (bucketCount - 1);
    }

    private boolean areTwins(int i, int j) {
      boolean areAlike = signs.get(i) == signs.get(j);
      // Terms with the same symbol lack the same arguments, so what stands there does not matter.
      for (int k = 0; k < MOST_PARTS && areAlike; k++) {
        areAlike =
            leaders.get(parts.get(MOST_PARTS * i + k))
                == leaders.get(parts.get(MOST_PARTS * j + k));
      }
      return areAlike;
    }

    void pourInto(Grammar grammar) {
      grammar.clear(walk.count());
      for (int i = 0; i < walk.count(); i++) {
        if (twins.get(i) == 0) {
          int p = grammar.addProduction(leaders.get(i), store.symbol(walk.node(i)));
          for (int k = 0; k < grammar.arity(p); k++) {
            grammar.setPart(p, k, leaders.get(parts.get(MOST_PARTS * i + k)));
          }
        }
      }
    }
  }

  /** Equations, separations, levels, and the rules that belong to the equations. */
  private static final class Theory {
    static final int ADDED = 0;
    static final int TOO_MANY = 1;
    static final int TOO_LARGE = 2;

    private final Symbols symbols;
    private final TermStore store;
    private final Walk walk;
    private final Grammar grammar;
    private final Closure closure;
    private final int[] equationLefts = new int[MOST_STATEMENTS];
    private final int[] equationRights = new int[MOST_STATEMENTS];
    int equationCount;
    private final int[] separationLefts = new int[MOST_STATEMENTS];
    private final int[] separationRights = new int[MOST_STATEMENTS];
    int separationCount;
    private final int[] levelEquations = new int[MOST_LEVELS];
    private final int[] levelSeparations = new int[MOST_LEVELS];
    int levelCount;
    // Each rule needs an equation of its own: to join two classes makes at most one rule more.
    private final int[] ruleLefts = new int[MOST_STATEMENTS];
    private final int[] ruleRights = new int[MOST_STATEMENTS];
    private final Row ruleHints = new Row(MOST_NODES);
    int ruleCount;

    Theory(Symbols symbols, TermStore store, Walk walk, Grammar grammar) {
      this.symbols = symbols;
      this.store = store;
      this.walk = walk;
      this.grammar = grammar;
      closure = new Closure(store, walk);
    }

    int leftSide(int i) {
      return i >= 0 && i < MOST_STATEMENTS ? ruleLefts[i] : NONE;
    }

    int rightSide(int i) {
      return i >= 0 && i < MOST_STATEMENTS ? ruleRights[i] : NONE;
    }

    /** After a statement that is an equation the rules have to be completed. */
    int addStatement(boolean isEquation, int left, int right) {
      if ((isEquation ? equationCount : separationCount) >= MOST_STATEMENTS) {
        return TOO_MANY;
      }
      if (isEquation) {
        addEquation(left, right);
      } else {
        addSeparation(left, right);
      }
      return ADDED;
    }

    void addSeparation(int left, int right) {
      if (separationCount >= 0 && separationCount < MOST_STATEMENTS) {
        separationLefts[separationCount] = left;
        separationRights[separationCount] = right;
        separationCount++;
      }
    }

    void addEquation(int left, int right) {
      if (equationCount >= 0 && equationCount < MOST_STATEMENTS) {
        equationLefts[equationCount] = left;
        equationRights[equationCount] = right;
        equationCount++;
      }
    }

    /** Leaves the first statements; the rules are not touched. */
    void goBack(int equations, int separations) {
      equationCount = equations;
      separationCount = separations;
    }

    void openLevel() {
      if (levelCount >= 0 && levelCount < MOST_LEVELS) {
        levelEquations[levelCount] = equationCount;
        levelSeparations[levelCount] = separationCount;
        levelCount++;
      }
    }

    void closeLevel() {
      if (levelCount > 0 && levelCount <= MOST_LEVELS) {
        levelCount--;
        goBack(levelEquations[levelCount], levelSeparations[levelCount]);
      }
    }

    /** Finds the rules of the equations; the old ones stay if one of the new ones is too large. */
    boolean complete() {
      gather(NONE, NONE, NONE);
      closure.close();
      closure.pourInto(grammar);
      grammar.rank(symbols.orderMode());
      for (int k = 0; k < grammar.sequenceCount(); k++) {
        int p = grammar.ranked(k);
        int least = grammar.choice(grammar.owner(p));
        if (p != least && (isTooLargeSide(p) || isTooLargeSide(least))) {
          return false;
        }
      }
      takeRules();
      return true;
    }

    /** Joins the terms of all equations but one; the terms s and t take part. NONE stands for none. */
    private void gather(int excepted, int s, int t) {
      walk.clear();
      for (int e = 0; e < equationCount && e < MOST_STATEMENTS; e++) {
        if (e != excepted) {
          walk.add(equationLefts[e]);
          walk.add(equationRights[e]);
        }
      }
      walk.add(s);
      walk.add(t);
      closure.start();
      for (int e = 0; e < equationCount && e < MOST_STATEMENTS; e++) {
        if (e != excepted) {
          closure.join(walk.indexOf(equationLefts[e]), walk.indexOf(equationRights[e]));
        }
      }
    }

    private boolean isTooLargeSide(int p) {
      return grammar.termSize(p) > LARGEST_SIDE || grammar.termDepth(p) > DEEPEST_SIDE;
    }

    private void takeRules() {
      grammar.dropNeeds();
      for (int k = 0; k < grammar.sequenceCount(); k++) {
        int p = grammar.ranked(k);
        if (grammar.choice(grammar.owner(p)) != p) {
          grammar.need(grammar.owner(p));
          grammar.needParts(p);
        }
      }
      grammar.spreadNeeds();
      ruleCount = 0;
      for (int k = 0; k < grammar.sequenceCount(); k++) {
        int p = grammar.ranked(k);
        int c = grammar.owner(p);
        if (grammar.isNeeded(p)) {
          grammar.setLeastTerm(c, grammar.makeTerm(p, store));
        } else if (grammar.choice(c) != p) {
          addRule(grammar.makeTerm(p, store), grammar.leastTerm(c));
        }
      }
    }

    private void addRule(int left, int right) {
      if (ruleCount >= 0 && ruleCount < MOST_STATEMENTS) {
        ruleLefts[ruleCount] = left;
        ruleRights[ruleCount] = right;
        ruleHints.set(left, ruleCount);
        ruleCount++;
      }
    }

    /** A hint may be left from earlier rules, so the rule itself must say that it is the one. */
    private int ruleFor(int node) {
      int i = ruleHints.get(node);
      return i >= 0 && i < ruleCount && i < MOST_STATEMENTS && ruleLefts[i] == node ? i : NONE;
    }

    /** The walk over the term then holds normal forms as values and steps as tallies. */
    int normalize(int root) {
      walk.clear();
      walk.add(root);
      for (int i = 0; i < walk.count(); i++) {
        int node = walk.rebuild(i);
        int rule = ruleFor(node);
        walk.setValue(i, rule == NONE ? node : rightSide(rule));
        walk.setTally(i, walk.sumOfParts(i) + (rule == NONE ? 0 : 1));
      }
      return walk.value(walk.count() - 1);
    }

    boolean makesEqual(int s, int t) {
      return s == t || normalize(s) == normalize(t);
    }

    boolean makesEqualWithout(int e, int s, int t) {
      gather(e, s, t);
      closure.close();
      return closure.leader(walk.indexOf(s)) == closure.leader(walk.indexOf(t));
    }

    int firstConflict() {
      for (int i = 0; i < separationCount && i < MOST_STATEMENTS; i++) {
        if (normalize(separationLefts[i]) == normalize(separationRights[i])) {
          return i;
        }
      }
      return NONE;
    }

    int countSteps(int t) {
      normalize(t);
      return walk.tally(walk.count() - 1);
    }

    int makeSteps(int t, int k) {
      normalize(t);
      return stepFrom(t, k, 0);
    }

    /**
     * As the arguments of a left side are normal, the leftmost steps lead through the arguments from
     * left to right before the term itself is a left side.
     */
    private int stepFrom(int node, int k, int level) {
      int i = walk.indexOf(node);
      if (k <= 0 || level > DEEPEST_TERM) {
        return node;
      }
      if (k >= walk.tally(i)) {
        return walk.value(i);
      }
      int left = k;
      int a = NONE;
      int b = NONE;
      int c = NONE;
      for (int n = 0; n < store.arity(node); n++) {
        int part = stepFrom(store.part(node, n), left, level + 1);
        left -= Math.min(left, walk.tally(walk.partOf(i, n)));
        a = n == 0 ? part : a;
        b = n == 1 ? part : b;
        c = n == 2 ? part : c;
      }
      return store.make(store.symbol(node), a, b, c);
    }

    void markTerms() {
      for (int i = 0; i < MOST_STATEMENTS; i++) {
        if (i < equationCount) {
          store.mark(equationLefts[i]);
          store.mark(equationRights[i]);
        }
        if (i < separationCount) {
          store.mark(separationLefts[i]);
          store.mark(separationRights[i]);
        }
        if (i < ruleCount) {
          store.mark(ruleLefts[i]);
          store.mark(ruleRights[i]);
        }
      }
    }
  }

  /**
   * Answers about the class of a normal form. A term belongs to it if, with normal arguments, it is
   * this normal form or a left side whose right side that is.
   */
  private static final class ClassSearch {
    private final Theory theory;
    private final TermStore store;
    private final Walk walk;
    private final Grammar grammar;
    private long[] counts = new long[64 * (MOST_COUNTED + 1)];

    ClassSearch(Theory theory, TermStore store, Walk walk, Grammar grammar) {
      this.theory = theory;
      this.store = store;
      this.walk = walk;
      this.grammar = grammar;
    }

    /** Puts the class of a normal form, as class 0, and all that it is made of into the grammar. */
    private void gather(int normal) {
      walk.clear();
      walk.append(normal);
      for (int i = 0; i < walk.count() && i < MOST_LISTED; i++) {
        int node = walk.node(i);
        appendParts(node);
        for (int r = 0; r < theory.ruleCount; r++) {
          if (theory.rightSide(r) == node) {
            appendParts(theory.leftSide(r));
          }
        }
      }
      grammar.clear(walk.count());
      for (int i = 0; i < walk.count(); i++) {
        int node = walk.node(i);
        addProduction(i, node);
        for (int r = 0; r < theory.ruleCount; r++) {
          if (theory.rightSide(r) == node) {
            addProduction(i, theory.leftSide(r));
          }
        }
      }
    }

    private void appendParts(int node) {
      for (int i = 0; i < store.arity(node); i++) {
        walk.append(store.part(node, i));
      }
    }

    private void addProduction(int c, int node) {
      int p = grammar.addProduction(c, store.symbol(node));
      for (int i = 0; i < store.arity(node); i++) {
        grammar.setPart(p, i, walk.indexOf(store.part(node, i)));
      }
    }

    boolean hasFiniteClass(int normal) {
      gather(normal);
      return grammar.isFiniteClass(0);
    }

    /** NONE if the term that is sought is too large. */
    int leastOfSmallest(int normal) {
      gather(normal);
      grammar.rank(BY_SIZE);
      grammar.keepSmallest();
      grammar.rank(theory.symbols.orderMode());
      int p = grammar.choice(0);
      if (grammar.termSize(p) > LARGEST_TERM || grammar.termDepth(p) > DEEPEST_TERM) {
        return NONE;
      }
      grammar.dropNeeds();
      grammar.need(0);
      grammar.spreadNeeds();
      for (int k = 0; k < grammar.sequenceCount(); k++) {
        int q = grammar.ranked(k);
        if (grammar.isNeeded(q)) {
          grammar.setLeastTerm(grammar.owner(q), grammar.makeTerm(q, store));
        }
      }
      return grammar.leastTerm(0);
    }

    long countEqual(int normal, int n) {
      gather(normal);
      int needed = walk.count() * (MOST_COUNTED + 1);
      if (needed > counts.length) {
        counts = new long[Math.max(needed, 2 * counts.length)];
      }
      for (int i = 0; i < needed && i < counts.length; i++) {
        counts[i] = 0;
      }
      for (int size = 1; size <= n; size++) {
        for (int p = 0; p < grammar.count(); p++) {
          int cell = cellOf(grammar.owner(p), size);
          counts[cell] += countMade(p, size);
        }
      }
      return counts[cellOf(0, n)];
    }

    /** Cell 0 belongs to size 0, of which there are no terms, and so to all that is not known. */
    private int cellOf(int c, int size) {
      int cell = c * (MOST_COUNTED + 1) + size;
      boolean isThere = c >= 0 && size > 0 && size <= MOST_COUNTED && cell < counts.length;
      return isThere ? cell : 0;
    }

    private long countMade(int p, int size) {
      int arity = grammar.arity(p);
      if (arity == 0) {
        return size == 1 ? 1 : 0;
      }
      int a = grammar.part(p, 0);
      if (arity == 1) {
        return counts[cellOf(a, size - 1)];
      }
      int b = grammar.part(p, 1);
      if (arity == 2) {
        return countPairs(a, b, size - 1);
      }
      long sum = 0;
      for (int i = 1; i <= size - 3; i++) {
        long firsts = counts[cellOf(grammar.part(p, 2), i)];
        sum += firsts == 0 ? 0 : firsts * countPairs(a, b, size - 1 - i);
      }
      return sum;
    }

    private long countPairs(int a, int b, int size) {
      long sum = 0;
      for (int i = 1; i < size; i++) {
        sum += counts[cellOf(a, i)] * counts[cellOf(b, size - i)];
      }
      return sum;
    }
  }

  /** Patterns modulo the theory. */
  private static final class Matcher {
    private static final int PLACE_BITS = 20;
    private static final int PLACE_MASK = (1 << PLACE_BITS) - 1;

    private final Theory theory;
    private final TermStore store;
    private final Walk walk;
    private final Grammar grammar;
    private final Row found = new Row(MOST_VARIABLES * (MOST_SOLUTIONS + 1));
    private int foundCount;
    private int foundVariables;
    private final Row kept = new Row(MOST_VARIABLES * (MOST_SOLUTIONS + 1));
    int keptCount;
    private int keptVariables;
    private final int[] bindings = new int[MOST_VARIABLES];
    private final int[] goalPatterns = new int[MOST_PATTERN];
    private final int[] goalNodes = new int[MOST_PATTERN];
    private int goalCount;
    private final long[] keys = new long[MOST_SOLUTIONS];

    Matcher(Theory theory, TermStore store, Walk walk, Grammar grammar) {
      this.theory = theory;
      this.store = store;
      this.walk = walk;
      this.grammar = grammar;
    }

    boolean assigns(int ordinal) {
      return ordinal >= 0 && (keptVariables >> ordinal & 1) == 1;
    }

    int assigned(int k, int ordinal) {
      return kept.get(MOST_VARIABLES * k + ordinal);
    }

    /** The number of solutions, of which those beyond the limit and one more are left out. */
    int solve(int pattern, int t) {
      int node = theory.normalize(t);
      // Only ground subterms of the pattern change: no rule says anything of a variable.
      int normal = theory.normalize(pattern);
      foundVariables = 0;
      for (int i = 0; i < walk.count(); i++) {
        int ordinal = store.variableOrdinal(walk.node(i));
        foundVariables |= ordinal == NONE ? 0 : 1 << ordinal;
      }
      for (int v = 0; v < MOST_VARIABLES; v++) {
        bindings[v] = NONE;
      }
      foundCount = 0;
      goalCount = 0;
      if (agrees(normal, node)) {
        solveFrom(0);
      }
      return foundCount;
    }

    /** Solves the goals from one on, of which each one is a pattern with a class. */
    private void solveFrom(int goal) {
      if (foundCount > MOST_SOLUTIONS || goal < 0) {
        return;
      }
      if (goal >= goalCount || goal >= MOST_PATTERN) {
        for (int v = 0; v < MOST_VARIABLES; v++) {
          found.set(MOST_VARIABLES * foundCount + v, bindings[v]);
        }
        foundCount++;
        return;
      }
      int node = goalNodes[goal];
      solveWith(goal, node);
      for (int r = 0; r < theory.ruleCount; r++) {
        if (theory.rightSide(r) == node) {
          solveWith(goal, theory.leftSide(r));
        }
      }
    }

    private void solveWith(int goal, int shape) {
      int pattern = goal >= 0 && goal < MOST_PATTERN ? goalPatterns[goal] : NONE;
      if (pattern < 0 || store.symbol(pattern) != store.symbol(shape)) {
        return;
      }
      int goals = goalCount;
      int first = bindings[0];
      int second = bindings[1];
      int third = bindings[2];
      boolean isAgreed = true;
      for (int i = 0; i < store.arity(shape) && isAgreed; i++) {
        isAgreed = agrees(store.part(pattern, i), store.part(shape, i));
      }
      if (isAgreed) {
        solveFrom(goal + 1);
      }
      goalCount = goals;
      bindings[0] = first;
      bindings[1] = second;
      bindings[2] = third;
    }

    /** Looks at a pattern and a class as far as that is clear at once; the rest becomes a goal. */
    private boolean agrees(int pattern, int node) {
      if (store.isGround(pattern)) {
        return pattern == node;
      }
      int v = store.variableOrdinal(pattern);
      if (v >= 0 && v < MOST_VARIABLES) {
        if (bindings[v] == NONE) {
          bindings[v] = node;
        }
        return bindings[v] == node;
      }
      if (goalCount < 0 || goalCount >= MOST_PATTERN) {
        return false;
      }
      goalPatterns[goalCount] = pattern;
      goalNodes[goalCount] = node;
      goalCount++;
      return true;
    }

    void keepFound() {
      walk.clear();
      for (int i = 0; i < MOST_VARIABLES * foundCount; i++) {
        walk.add(found.get(i));
      }
      grammar.takeTerms(walk, store);
      grammar.rank(theory.symbols.orderMode());
      for (int k = 0; k < foundCount && k < MOST_SOLUTIONS; k++) {
        insertKey(k, keyOf(k));
      }
      for (int k = 0; k < foundCount && k < MOST_SOLUTIONS; k++) {
        for (int v = 0; v < MOST_VARIABLES; v++) {
          int place = (int) (keys[k] >> shiftOf(v)) & PLACE_MASK;
          kept.set(MOST_VARIABLES * k + v, walk.node(grammar.owner(grammar.ranked(place))));
        }
      }
      keptCount = foundCount;
      keptVariables = foundVariables;
    }

    private int shiftOf(int v) {
      return PLACE_BITS * (MOST_VARIABLES - 1 - v);
    }

    /** The places of the assigned terms in the order of terms, the first variable foremost. */
    private long keyOf(int k) {
      long key = 0;
      for (int v = 0; v < MOST_VARIABLES; v++) {
        int node = found.get(MOST_VARIABLES * k + v);
        int place = node == NONE ? 0 : grammar.position(walk.indexOf(node));
        key |= (long) place << shiftOf(v);
      }
      return key;
    }

    /** Puts a key into its place among the first ones, which are in order. */
    private void insertKey(int count, long key) {
      int low = 0;
      int high = count;
      for (int i = 0; i < 32 && low < high; i++) {
        int middle = (low + high) / 2;
        if (middle >= 0 && middle < MOST_SOLUTIONS && keys[middle] < key) {
          low = middle + 1;
        } else {
          high = middle;
        }
      }
      if (low < 0 || low > count || count >= MOST_SOLUTIONS) {
        return;
      }
      System.arraycopy(keys, low, keys, low + 1, count - low);
      keys[low] = key;
    }

    void markTerms() {
      for (int k = 0; k < keptCount; k++) {
        for (int v = 0; v < MOST_VARIABLES; v++) {
          if (assigns(v)) {
            store.mark(kept.get(MOST_VARIABLES * k + v));
          }
        }
      }
    }
  }
}
