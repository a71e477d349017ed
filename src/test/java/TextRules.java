/**
 * Finds the first error of a text as the document's words say, not as a reader of terms would: first
 * the byte with which the text is no beginning of a text of its form any more, then, of the names
 * before it, the errors of the other kinds, each one with the place where it is found.
 */
final class TextRules {
  private static final int TERM = 0;
  private static final int NAME = 1;
  private static final int BEHIND_NAME = 2;
  private static final int BEHIND_TERM = 3;
  private static final int BANG = 4;
  private static final int STATEMENT = 5;

  private final String text;
  private final boolean isTheory;
  private final String[] names;
  private final int[] arities;
  private final int firstVariable;
  private final int notVariable;
  // The error that is found first, and when. At the same byte, a name comes first that this byte ends,
  // then the "(" that it lacks or has, then what the "," or ")" says of a name farther out, then kind 1.
  private int kind;
  private int position = -1;
  private int found = Integer.MAX_VALUE;

  TextRules(String text, boolean isTheory, String[] names, int[] arities, int firstVariable,
      int notVariable) {
    this.text = text;
    this.isTheory = isTheory;
    this.names = names;
    this.arities = arities;
    this.firstVariable = firstVariable;
    this.notVariable = notVariable;
  }

  /** Kind and position, 0 and -1 if there is no error. */
  int[] firstError() {
    int end = wrongByte();
    int length = end < 0 ? text.length() : end;
    if (end >= 0) {
      note(1, end, 4 * end + 3);
    }
    int start = -1;
    for (int i = 0; i <= length; i++) {
      boolean isIn = i < length && (isLetter(text.charAt(i)) || (start >= 0 && isDigit(text.charAt(i))));
      if (isIn && start < 0) {
        start = i;
      } else if (!isIn && start >= 0) {
        lookAtName(start, i, length);
        start = -1;
      }
    }
    return new int[] {kind, position};
  }

  private void note(int newKind, int newPosition, int when) {
    if (when < found) {
      kind = newKind;
      position = newPosition;
      found = when;
    }
  }

  private static boolean isLetter(char c) {
    return c >= 'a' && c <= 'z';
  }

  private static boolean isDigit(char c) {
    return c >= '0' && c <= '9';
  }

  private static boolean isBlank(char c) {
    return c == 10 || c == 32;
  }

  /** Where the first byte of kind 1 is, or the end of a text that ends too early; -1 for none. */
  private int wrongByte() {
    int state = isTheory ? STATEMENT : TERM;
    int open = 0;
    boolean isRight = !isTheory;
    for (int i = 0; i < text.length(); i++) {
      char c = text.charAt(i);
      if (state == NAME && !isLetter(c) && !isDigit(c)) {
        state = BEHIND_NAME;
      }
      if (state == NAME || (isBlank(c) && state != BANG)) {
        continue;
      }
      boolean isBehind = state == BEHIND_NAME || state == BEHIND_TERM;
      if ((state == TERM || state == STATEMENT) && isLetter(c)) {
        state = NAME;
      } else if (state == BEHIND_NAME && c == '(') {
        state = TERM;
        open++;
      } else if (isBehind && open > 0 && c == ',') {
        state = TERM;
      } else if (isBehind && open > 0 && c == ')') {
        state = BEHIND_TERM;
        open--;
      } else if (isBehind && open == 0 && isTheory && !isRight && c == '!') {
        state = BANG;
      } else if (c == '=' && (state == BANG || (isBehind && open == 0 && isTheory && !isRight))) {
        state = TERM;
        isRight = true;
      } else if (isBehind && open == 0 && isTheory && isRight && c == ';') {
        state = STATEMENT;
        isRight = false;
      } else {
        return i;
      }
    }
    boolean isWhole = isTheory ? state == STATEMENT : open == 0 && state != TERM;
    return isWhole ? -1 : text.length();
  }

  private void lookAtName(int start, int end, int length) {
    int symbol = -1;
    for (int i = 0; i < names.length; i++) {
      symbol = names[i].equals(text.substring(start, end)) ? i : symbol;
    }
    int inside = 0;
    for (int i = 0; i < start; i++) {
      inside += text.charAt(i) == '(' ? 1 : text.charAt(i) == ')' ? -1 : 0;
    }
    if (symbol < 0) {
      note(2, start, 4 * end);
    } else if (isTheory && symbol >= firstVariable && symbol != notVariable) {
      note(3, start, 4 * end);
    } else if (inside > 59) {
      note(4, start, 4 * end);
    } else {
      lookAtArguments(start, end, length, arities[symbol]);
    }
  }

  private void lookAtArguments(int start, int end, int length, int arity) {
    int next = end;
    while (next < length && isBlank(text.charAt(next))) {
      next++;
    }
    boolean isOpened = next < length && text.charAt(next) == '(';
    if (isOpened != (arity > 0)) {
      note(5, start, 4 * next + 1);
    }
    int inside = 0;
    int arguments = 1;
    for (int i = next; i < length && isOpened && (i == next || inside > 0); i++) {
      char c = text.charAt(i);
      inside += c == '(' ? 1 : c == ')' ? -1 : 0;
      if ((c == ',' && inside == 1 && arguments == arity) || (c == ')' && inside == 0 && arguments < arity)) {
        note(5, start, 4 * i + 2);
      }
      arguments += c == ',' && inside == 1 ? 1 : 0;
    }
  }
}
