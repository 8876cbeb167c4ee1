/**
 * A test for each sentence of the document that names a boundary case: use, numbers, programs, the
 * draft, kinds and runs, in the terms and in the promises 1 to 4 and 11 to 13. What they refuse is
 * looked at in BoundaryRefusalTest.
 */
public final class BoundaryProgramTest {
  private static final int MIN = Integer.MIN_VALUE;
  private static final int MAX = Integer.MAX_VALUE;

  /** Ints and the numbers that they are, by hand. */
  private static final int[][] NUMBERS = {
    {0, 0}, {1, 1}, {65519, 65519}, {65520, 65520}, {65521, 0}, {65522, 1}, {131041, 65520}, {131042, 0},
    {-1, 65520}, {-2, 65519}, {-65520, 1}, {-65521, 0}, {-65522, 65520}, {MAX, 32872}, {MIN, 32648}
  };

  public static void main(String[] args) {
    Due.each(
        BoundaryProgramTest::use,
        BoundaryProgramTest::numbersOfTerm,
        BoundaryProgramTest::numbersOfBegin,
        BoundaryProgramTest::numbersOfGo,
        BoundaryProgramTest::sums,
        BoundaryProgramTest::products,
        BoundaryProgramTest::nodesAndVariables,
        BoundaryProgramTest::atMostTwentyEdges,
        BoundaryProgramTest::perhapsTheSameNode,
        BoundaryProgramTest::draftAtFirst,
        BoundaryProgramTest::nothingIsChanged,
        BoundaryProgramTest::valueOfAForm,
        BoundaryProgramTest::formOfAKindWithoutOne,
        BoundaryProgramTest::anyNumber,
        BoundaryProgramTest::onlyWhereZero,
        BoundaryProgramTest::onlyWhereNotZero,
        BoundaryProgramTest::entryAtFirst,
        BoundaryProgramTest::fewNodes,
        BoundaryProgramTest::manyNodes,
        BoundaryProgramTest::fewVariables,
        BoundaryProgramTest::manyVariables,
        BoundaryProgramTest::constantIsPlaceZero,
        BoundaryProgramTest::draftAfterEdge,
        BoundaryProgramTest::edgeNumbers,
        BoundaryProgramTest::variableOfOtherKinds,
        BoundaryProgramTest::runAtTheNewEntry,
        BoundaryProgramTest::beginKeepsOthers,
        BoundaryProgramTest::valuesAtFirst,
        BoundaryProgramTest::goAnswersWhetherItCan,
        BoundaryProgramTest::goNumberOnlyForForgetting,
        BoundaryProgramTest::at);
    Due.end();
  }

  private static void use() {
    Due.sentence("An object is used for at most 512 calls after it has been made");
    AffineHulls counter = new AffineHulls(1, 1);
    Make.assign(counter, 0, 0, 1, 1, 1);
    for (int call = 4; call <= 511; call++) {
      counter.go(0, 0);
    }
    Due.is("call 512: at(1)", counter.at(1), 508);
    AffineHulls largest = new AffineHulls(8, 4);
    Make.skips(largest, 0, 7, 20);
    for (int call = 21; call <= 510; call++) {
      Due.is("analyse()", largest.analyse(), 10);
    }
    Due.is("call 511: points(7)", largest.points(7), 5);
    Due.is("call 512: point(7, 4, 4)", largest.point(7, 4, 4), 1);
    AffineHulls refused = new AffineHulls(1, 1);
    for (int call = 1; call <= 511; call++) {
      Due.badArgument("begin(2, 0)", () -> refused.begin(2, 0));
    }
    Due.is("call 512: analyse()", refused.analyse(), 2);
  }

  private static void numbersOfTerm() {
    Due.sentence("NUMBERS are 0 .. 65520; ... and so are ints that are given, also those below 0.", "term");
    for (int[] n : NUMBERS) {
      AffineHulls x = new AffineHulls(1, 2);
      Make.assign(x, 0, 0, 1, n[0]);
      x.go(0, 0);
      Due.is("constant " + n[0], x.at(1), n[1]);
      x.begin(2, 1);
      Make.assign(x, 0, 0, 1, 0, 0, n[0]);
      x.go(1, 0);
      Due.is("coefficient " + n[0], x.at(1), n[1]);
      Due.draft(x, n[0], 0, 0);
      x.analyse();
      Due.is("constant " + n[0] + " holds", x.holds(0), n[1] == 0);
    }
  }

  private static void numbersOfBegin() {
    Due.sentence("and so are ints that are given, also those below 0.", "begin");
    AffineHulls x = new AffineHulls(1, 1);
    for (int[] n : NUMBERS) {
      x.begin(1, n[0]);
      Due.is("begin(1, " + n[0] + ")", x.at(1), n[1]);
    }
  }

  private static void numbersOfGo() {
    Due.sentence("and so are ints that are given, also those below 0.", "go");
    AffineHulls x = new AffineHulls(1, 1);
    x.edge(0, 0, 2, 1);
    for (int[] n : NUMBERS) {
      Due.is("go(0, " + n[0] + ")", x.go(0, n[0]), true);
      Due.is("at(1)", x.at(1), n[1]);
    }
  }

  private static void sums() {
    Due.sentence("sums ... are taken modulo 65521");
    AffineHulls x = new AffineHulls(1, 1);
    Make.assign(x, 0, 0, 1, 1, 1);
    x.begin(1, 65519);
    x.go(0, 0);
    Due.is("65519 + 1", x.at(1), 65520);
    x.go(0, 0);
    Due.is("65520 + 1", x.at(1), 0);
    Make.assign(x, 0, 0, 1, 65520, 1);
    x.go(1, 0);
    Due.is("0 + 65520", x.at(1), 65520);
    x.go(1, 0);
    Due.is("65520 + 65520", x.at(1), 65519);
    Due.is("points", x.analyse(), 2);
  }

  private static void products() {
    Due.sentence("sums and products are taken modulo 65521 (a prime)");
    int[][] cases = {{256, 256, 15}, {65520, 65520, 1}, {65520, 2, 65519}, {32761, 2, 1}, {65520, 0, 0}, {32760, 2, 65520}};
    for (int[] c : cases) {
      AffineHulls x = new AffineHulls(1, 1);
      Make.assign(x, 0, 0, 1, 0, c[0]);
      x.begin(1, c[1]);
      x.go(0, 0);
      Due.is(c[0] + " * " + c[1], x.at(1), c[2]);
    }
    AffineHulls x = new AffineHulls(1, 4);
    Make.assign(x, 0, 0, 2, 65520, 65520, 65520, 65520, 65520);
    for (int k = 1; k <= 4; k++) {
      x.begin(k, 65520);
    }
    x.go(0, 0);
    Due.is("four products and a constant, all the largest", x.at(2), 3);
  }

  private static void nodesAndVariables() {
    Due.sentence("A PROGRAM has N NODES 0 .. N - 1, V VARIABLES 1 .. V");
    AffineHulls x = new AffineHulls(8, 4);
    x.entry(7);
    x.entry(0);
    Due.is("edge(0, 7, 1, 4)", x.edge(0, 7, 1, 4), 0);
    Due.is("edge(7, 0, 2, 1)", x.edge(7, 0, 2, 1), 1);
    Due.is("analyse()", x.analyse(), 9);
    Due.is("points(7)", x.points(7), 4);
    Due.is("go(0, 0)", x.go(0, 0), true);
    Due.is("at(0)", x.at(0), 7);
    x.begin(4, 3);
    Due.is("at(4)", x.at(4), 3);
  }

  private static void atMostTwentyEdges() {
    Due.sentence("at most 20 EDGES, numbered as they come");
    AffineHulls x = new AffineHulls(2, 1);
    for (int i = 0; i < 19; i++) {
      Due.is("edge " + i, Make.assign(x, 0, 1, 1, 100 + i), i);
    }
    Due.is("edge 19, the last one", Make.assign(x, 0, 1, 1, 119), 19);
    Due.badState("edge 20", () -> x.edge(0, 1, 0, 0));
    for (int i = 0; i < 20; i++) {
      x.begin(1, 0);
      Due.is("go(" + i + ", 0)", x.go(i, 0), true);
      Due.is("at(1)", x.at(1), 100 + i);
    }
    x.entry(0);
    Due.badArgument("go(20, 0)", () -> x.go(20, 0));
  }

  private static void perhapsTheSameNode() {
    Due.sentence("each from a node to a node (perhaps the same one)");
    for (int kind = 0; kind <= 3; kind++) {
      AffineHulls x = new AffineHulls(1, 1);
      Due.is("edge(0, 0, " + kind + ", 1)", x.edge(0, 0, kind, 1), 0);
      Due.is("go(0, 0)", x.go(0, 0), true);
      Due.is("at(0)", x.at(0), 0);
      Due.is("go(0, 0) again", x.go(0, 0), true);
      Due.is("analyse()", x.analyse(), 2);
    }
    AffineHulls x = new AffineHulls(2, 1);
    Make.assign(x, 1, 1, 1, 1, 1);
    Make.assign(x, 0, 1, 1, 5);
    Due.is("from node 1 to node 1 a point comes", x.analyse(), 4);
    Due.pointIs(x, 1, 1, 1000, 6);
  }

  private static void draftAtFirst() {
    Due.sentence("THE DRAFT is a form (all 0 at first).");
    AffineHulls assigned = new AffineHulls(1, 2);
    assigned.edge(0, 0, 1, 1);
    assigned.begin(1, 5);
    assigned.begin(2, 6);
    assigned.go(0, 0);
    Due.is("an edge with it", assigned.at(1), 0);
    AffineHulls held = new AffineHulls(1, 2);
    held.analyse();
    Due.is("it holds at the entry", held.holds(0), true);
    AffineHulls noted = new AffineHulls(2, 2);
    noted.note(1);
    noted.edge(0, 1, 0, 0);
    Due.is("a note of it follows from nothing", noted.sound(), true);
  }

  private static void nothingIsChanged() {
    Due.sentence("Kind 0: nothing is changed. ... 3: nothing is changed, ... 4: likewise");
    int[] forms = {7, 0, 7};
    int[] kinds = {0, 3, 4};
    for (int i = 0; i < 3; i++) {
      AffineHulls x = new AffineHulls(2, 2);
      Make.ask(x, 0, 1, kinds[i], forms[i]);
      x.begin(1, 65520);
      x.begin(2, 11);
      Due.is("kind " + kinds[i] + " can be gone", x.go(0, 9), true);
      Due.is("at(0)", x.at(0), 1);
      Due.is("at(1)", x.at(1), 65520);
      Due.is("at(2)", x.at(2), 11);
    }
  }

  private static void valueOfAForm() {
    Due.sentence("1: a variable becomes the value of a form.");
    AffineHulls x = new AffineHulls(1, 4);
    Make.assign(x, 0, 0, 4, 65520, 1, 2, 3, 4);
    Make.assign(x, 0, 0, 1, 0);
    for (int k = 1; k <= 4; k++) {
      x.begin(k, 10 * k);
    }
    Due.is("go(0, 0)", x.go(0, 0), true);
    Due.is("the value with the variable as it was", x.at(4), 299);
    Due.is("others stay", x.at(1), 10);
    Due.is("go(0, 0)", x.go(0, 0), true);
    Due.is("and again", x.at(4), 139 + 4 * 299);
    Due.is("go(1, 0)", x.go(1, 0), true);
    Due.is("a form of 0", x.at(1), 0);
    Due.is("others stay", x.at(4), 1335);
  }

  private static void formOfAKindWithoutOne() {
    Due.sentence("with the draft as its form if it has one;", "it has none");
    AffineHulls x = new AffineHulls(3, 1);
    Due.draft(x, 7, 1);
    x.edge(0, 1, 0, 0);
    Due.draft(x, 7, 1);
    x.edge(1, 2, 2, 1);
    x.begin(1, 5);
    Due.is("kind 0 can be gone", x.go(0, 3), true);
    Due.is("at(1)", x.at(1), 5);
    Due.is("kind 2 can be gone", x.go(1, 3), true);
    Due.is("at(1)", x.at(1), 3);
    Due.is("analyse()", x.analyse(), 6);
    Due.pointIs(x, 1, 1, 10, 1);
    Due.pointIs(x, 2, 1, 11001, 1);
  }

  private static void anyNumber() {
    Due.sentence("2: a variable becomes any number.");
    AffineHulls x = new AffineHulls(1, 4);
    Due.draft(x, 5, 5, 5, 5, 5);
    x.edge(0, 0, 2, 4);
    x.edge(0, 0, 2, 1);
    for (int number : new int[] {65520, 0, 1, 65519}) {
      Due.is("go(0, " + number + ")", x.go(0, number), true);
      Due.is("at(4)", x.at(4), number);
      Due.is("at(1)", x.at(1), 0);
    }
    x.go(1, 65520);
    Due.is("at(1)", x.at(1), 65520);
    Due.is("at(4)", x.at(4), 65519);
  }

  private static void onlyWhereZero() {
    Due.sentence("3: ... it can be gone only where the value of a form is 0.");
    asked(3);
  }

  private static void onlyWhereNotZero() {
    Due.sentence("4: likewise, only where it is not 0.");
    asked(4);
  }

  /** x + 2: 0 at 65519 alone, where the sum is the modulus. */
  private static void asked(int kind) {
    for (int value : new int[] {65519, 65518, 65520, 0, 1, 2}) {
      AffineHulls x = new AffineHulls(2, 1);
      Make.ask(x, 0, 1, kind, 2, 1);
      x.begin(1, value);
      boolean can = (value == 65519) == (kind == 3);
      Due.is("kind " + kind + ", x + 2 at " + value, x.go(0, 0), can);
      Due.is("at(0)", x.at(0), can ? 1 : 0);
      Due.is("at(1)", x.at(1), value);
    }
    AffineHulls constant = new AffineHulls(1, 1);
    Make.ask(constant, 0, 0, kind, 0);
    Make.ask(constant, 0, 0, kind, 1);
    Due.is("kind " + kind + ", the form 0", constant.go(0, 0), kind == 3);
    Due.is("kind " + kind + ", the form 1", constant.go(1, 0), kind == 4);
  }

  private static void entryAtFirst() {
    Due.sentence("A RUN begins at the ENTRY (node 0 at first)");
    AffineHulls x = new AffineHulls(8, 1);
    Due.is("at(0)", x.at(0), 0);
    x.begin(1, 1);
    Due.is("at(0) after begin()", x.at(0), 0);
    x.analyse();
    Due.is("points(0)", x.points(0), 2);
    x.note(0);
    Due.is("a note at node 0", x.sound(), false);
  }

  private static void fewNodes() {
    Due.sentence("N is nodes, but 1 when that is less");
    for (int nodes : new int[] {1, 0, -1, -2, -8, MIN}) {
      hasNodes(nodes, 1);
    }
    hasNodes(2, 2);
  }

  private static void manyNodes() {
    Due.sentence("N is nodes, but ... 8 when it is more");
    for (int nodes : new int[] {8, 9, 1000, MAX}) {
      hasNodes(nodes, 8);
    }
    hasNodes(7, 7);
  }

  private static void hasNodes(int nodes, int due) {
    AffineHulls x = new AffineHulls(nodes, 2);
    String made = "AffineHulls(" + nodes + ", 2).";
    x.analyse();
    Due.is(made + "points(" + (due - 1) + ")", x.points(due - 1), due == 1 ? 3 : 0);
    Due.badArgument(made + "points(" + due + ")", () -> x.points(due));
    Due.is(made + "edge(0, " + (due - 1) + ", 0, 0)", x.edge(0, due - 1, 0, 0), 0);
    Due.badArgument(made + "edge(0, " + due + ", 0, 0)", () -> x.edge(0, due, 0, 0));
  }

  private static void fewVariables() {
    Due.sentence("V is variables, but 1 to 4 likewise.", "less than 1");
    for (int variables : new int[] {1, 0, -1, -2, -4, MIN}) {
      hasVariables(variables, 1);
    }
    hasVariables(2, 2);
  }

  private static void manyVariables() {
    Due.sentence("V is variables, but 1 to 4 likewise.", "more than 4");
    for (int variables : new int[] {4, 5, 1000, MAX}) {
      hasVariables(variables, 4);
    }
    hasVariables(3, 3);
  }

  private static void hasVariables(int variables, int due) {
    AffineHulls x = new AffineHulls(2, variables);
    String made = "AffineHulls(2, " + variables + ").";
    Due.is(made + "analyse()", x.analyse(), due + 1);
    Due.is(made + "equations(1)", x.equations(1), due + 1);
    Due.is(made + "at(" + due + ")", x.at(due), 0);
    Due.badArgument(made + "at(" + (due + 1) + ")", () -> x.at(due + 1));
    x.begin(due, 3);
    Due.badArgument(made + "begin(" + (due + 1) + ", 3)", () -> x.begin(due + 1, 3));
  }

  private static void constantIsPlaceZero() {
    Due.sentence("Coefficient k of the draft (0: the constant) is c.");
    AffineHulls x = new AffineHulls(1, 4);
    for (int k = 1; k <= 4; k++) {
      x.begin(k, 10 * k);
    }
    x.term(0, 9);
    x.term(0, 7);
    Due.is("the last given stays", Make.draftValue(x), 7);
    x.term(4, 2);
    x.term(1, 3);
    Due.is("3 * 7 + 2 * 40", Make.draftValue(x), 101);
    x.term(4, 2);
    x.term(4, 0);
    Due.is("taken back", Make.draftValue(x), 0);
  }

  private static void draftAfterEdge() {
    Due.sentence("the draft is all 0 then, whatever the kind");
    for (int kind = 0; kind <= 4; kind++) {
      AffineHulls x = new AffineHulls(2, 4);
      Due.draft(x, 1, 2, 3, 4, 5);
      x.edge(0, 1, kind, 2);
      for (int k = 1; k <= 4; k++) {
        x.begin(k, 1000 * k);
      }
      Due.is("the draft after kind " + kind, Make.draftValue(x), 0);
    }
  }

  private static void edgeNumbers() {
    Due.sentence("An edge of a kind ... its number.");
    AffineHulls x = new AffineHulls(2, 1);
    Due.is("the first", x.edge(1, 1, 4, 0), 0);
    Due.badArgument("none such", () -> x.edge(0, 2, 0, 0));
    Due.is("the second: what is refused has no number", x.edge(1, 1, 4, 0), 1);
  }

  private static void variableOfOtherKinds() {
    Due.sentence("(for the kinds 1 and 2: of variable v)", "others have none, whatever v is");
    for (int kind : new int[] {0, 3, 4}) {
      for (int v : new int[] {0, 3, -1, MIN, MAX}) {
        Due.is("edge(0, 1, " + kind + ", " + v + ")", new AffineHulls(2, 2).edge(0, 1, kind, v), 0);
      }
    }
  }

  private static void runAtTheNewEntry() {
    Due.sentence("Another node is the entry; the present run is there then, with its values.");
    AffineHulls x = new AffineHulls(8, 2);
    x.begin(1, 65520);
    x.begin(2, 12);
    x.entry(7);
    Due.is("at(0)", x.at(0), 7);
    Due.is("at(1)", x.at(1), 65520);
    Due.is("at(2)", x.at(2), 12);
    x.edge(7, 3, 0, 0);
    x.go(0, 0);
    x.entry(7);
    Due.is("at(0), the entry given again", x.at(0), 7);
    x.go(0, 0);
    x.entry(0);
    Due.is("at(0), from elsewhere", x.at(0), 0);
    Due.is("at(2)", x.at(2), 12);
  }

  private static void beginKeepsOthers() {
    Due.sentence("variable k (1 .. V) has value x then, and the run is at the entry (other values stay as they are");
    AffineHulls x = new AffineHulls(3, 4);
    x.entry(2);
    Make.assign(x, 2, 1, 2, 44);
    x.begin(1, 11);
    x.go(0, 0);
    x.begin(4, 22);
    Due.is("at(0)", x.at(0), 2);
    int[] due = {11, 44, 0, 22};
    for (int k = 1; k <= 4; k++) {
      Due.is("at(" + k + ")", x.at(k), due[k - 1]);
    }
  }

  private static void valuesAtFirst() {
    Due.sentence("all are 0 at first");
    AffineHulls x = new AffineHulls(8, 4);
    for (int k = 1; k <= 4; k++) {
      Due.is("at(" + k + ")", x.at(k), 0);
    }
    x.begin(2, 1);
    Due.is("at(1) after begin(2, 1)", x.at(1), 0);
  }

  private static void goAnswersWhetherItCan() {
    Due.sentence("The present run goes along an edge; x is the number for kind 2: whether it can.");
    AffineHulls x = new AffineHulls(3, 1);
    Make.ask(x, 0, 1, 4, 0);
    Make.ask(x, 0, 2, 3, 0);
    Due.is("it can't", x.go(0, 0), false);
    Due.is("still at", x.at(0), 0);
    Due.is("it can't again", x.go(0, 0), false);
    Due.is("it can", x.go(1, 0), true);
    Due.is("at(0)", x.at(0), 2);
  }

  private static void goNumberOnlyForForgetting() {
    Due.sentence("x is the number for kind 2");
    for (int number : new int[] {0, 1, -1, MIN, MAX}) {
      AffineHulls x = new AffineHulls(1, 2);
      x.edge(0, 0, 0, 1);
      Make.assign(x, 0, 0, 1, 5);
      x.edge(0, 0, 3, 1);
      for (int edge = 0; edge < 3; edge++) {
        Due.is("go(" + edge + ", " + number + ")", x.go(edge, number), true);
        Due.is("at(1)", x.at(1), edge == 0 ? 0 : 5);
        Due.is("at(2)", x.at(2), 0);
      }
    }
  }

  private static void at() {
    Due.sentence("Where the present run is (k = 0), or the value of variable k.");
    AffineHulls x = new AffineHulls(8, 4);
    x.entry(7);
    x.begin(1, 3);
    x.begin(4, 65520);
    Due.is("at(0)", x.at(0), 7);
    Due.is("at(1)", x.at(1), 3);
    Due.is("at(4)", x.at(4), 65520);
  }
}
