import java.util.NoSuchElementException;

/** Calls by name, with answers as texts (a boolean counts 1 or 0), of both kinds of prover. */
final class Calls {
  private Calls() {}

  static String ask(GroundProver p, String op, int... a) {
    try {
      return "" + answer(p, op, a);
    } catch (IndexOutOfBoundsException
        | IllegalArgumentException
        | IllegalStateException
        | ArithmeticException
        | NoSuchElementException e) {
      return "throws " + e.getClass().getSimpleName();
    }
  }

  private static long answer(GroundProver p, String op, int... a) {
    switch (op) {
      case "feed": return p.feed(a[0], a[1], a[2], a[3], a[4]);
      case "trim": return p.trim(a[0]);
      case "declare": return p.declare(a[0], a[1]);
      case "declareVariable": return p.declareVariable();
      case "symbolCount": return p.symbolCount();
      case "orderByWeight": return p.orderByWeight(a[0] == 1) ? 1 : 0;
      case "promote": return p.promote(a[0], a[1]);
      case "rankOf": return p.rankOf(a[0]);
      case "setDirection": return p.setDirection(a[0], a[1] == 1) ? 1 : 0;
      case "term": return p.term(a[0], a[1], a[2], a[3]);
      case "read": return p.read();
      case "errorKind": return p.errorKind();
      case "errorPosition": return p.errorPosition();
      case "termCount": return p.termCount();
      case "symbolOf": return p.symbolOf(a[0]);
      case "argument": return p.argument(a[0], a[1]);
      case "size": return p.size(a[0]);
      case "depth": return p.depth(a[0]);
      case "compare": return p.compare(a[0], a[1]);
      case "occurrences": return p.occurrences(a[0], a[1]);
      case "replace": return p.replace(a[0], a[1], a[2]);
      case "write": return p.write(a[0]);
      case "outputByte": return p.outputByte(a[0]);
      case "equate": return p.equate(a[0], a[1]);
      case "separate": return p.separate(a[0], a[1]);
      case "readTheory": return p.readTheory();
      case "equationCount": return p.equationCount();
      case "separationCount": return p.separationCount();
      case "isConsistent": return p.isConsistent() ? 1 : 0;
      case "conflict": return p.conflict();
      case "push": return p.push();
      case "pop": return p.pop();
      case "ruleCount": return p.ruleCount();
      case "ruleLeft": return p.ruleLeft(a[0]);
      case "ruleRight": return p.ruleRight(a[0]);
      case "normalForm": return p.normalForm(a[0]);
      case "areEqual": return p.areEqual(a[0], a[1]) ? 1 : 0;
      case "dependsOn": return p.dependsOn(a[0], a[1], a[2]) ? 1 : 0;
      case "stepCount": return p.stepCount(a[0]);
      case "afterSteps": return p.afterSteps(a[0], a[1]);
      case "countOfSize": return p.countOfSize(a[0], a[1]);
      case "isFinite": return p.isFinite(a[0]) ? 1 : 0;
      case "smallest": return p.smallest(a[0]);
      case "match": return p.match(a[0], a[1]);
      case "solution": return p.solution(a[0], a[1]);
      case "digest": return p.digest();
      default: throw new Error("no such call: " + op);
    }
  }

  static String ask(NaiveProver p, String op, int... a) {
    switch (op) {
      case "feed": return p.feed(a[0], a[1], a[2], a[3], a[4]);
      case "trim": return p.trim(a[0]);
      case "declare": return p.declare(a[0], a[1], false);
      case "declareVariable": return p.declare(0, 1, true);
      case "symbolCount": return p.symbolCount();
      case "orderByWeight": return p.orderByWeight(a[0] == 1);
      case "promote": return p.promote(a[0], a[1]);
      case "rankOf": return p.rankOf(a[0]);
      case "setDirection": return p.setDirection(a[0], a[1] == 1);
      case "term": return p.term(a[0], a[1], a[2], a[3]);
      case "read": return p.read();
      case "errorKind": return p.errorKind();
      case "errorPosition": return p.errorPosition();
      case "termCount": return p.termCount();
      case "symbolOf": return p.symbolOf(a[0]);
      case "argument": return p.argument(a[0], a[1]);
      case "size": return p.size(a[0]);
      case "depth": return p.depth(a[0]);
      case "compare": return p.compare(a[0], a[1]);
      case "occurrences": return p.occurrences(a[0], a[1]);
      case "replace": return p.replace(a[0], a[1], a[2]);
      case "write": return p.write(a[0]);
      case "outputByte": return p.outputByte(a[0]);
      case "equate": return p.equate(a[0], a[1]);
      case "separate": return p.separate(a[0], a[1]);
      case "readTheory": return p.readTheory();
      case "equationCount": return p.equationCount();
      case "separationCount": return p.separationCount();
      case "isConsistent": return p.isConsistent();
      case "conflict": return p.conflict();
      case "push": return p.push();
      case "pop": return p.pop();
      case "ruleCount": return p.ruleCount();
      case "ruleLeft": return p.ruleLeft(a[0]);
      case "ruleRight": return p.ruleRight(a[0]);
      case "normalForm": return p.normalForm(a[0]);
      case "areEqual": return p.areEqual(a[0], a[1]);
      case "dependsOn": return p.dependsOn(a[0], a[1], a[2]);
      case "stepCount": return p.stepCount(a[0]);
      case "afterSteps": return p.afterSteps(a[0], a[1]);
      case "countOfSize": return p.countOfSize(a[0], a[1]);
      case "isFinite": return p.isFinite(a[0]);
      case "smallest": return p.smallest(a[0]);
      case "match": return p.match(a[0], a[1]);
      case "solution": return p.solution(a[0], a[1]);
      case "digest": return p.digest();
      default: throw new Error("no such call: " + op);
    }
  }
}
