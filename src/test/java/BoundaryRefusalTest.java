import java.util.List;

/**
 * A test for each sentence of the document that names a refused call: which exception each call
 * throws, which one first, and what ANALYSED asks. Each refusal stands with a call just beside it
 * that is not refused. That a refused call changes nothing is looked at in BoundaryChangesTest.
 */
public final class BoundaryRefusalTest {
  private static final int MIN = Integer.MIN_VALUE;
  private static final int MAX = Integer.MAX_VALUE;

  /** What is no node of three, and what is no place (0 .. V) of two variables. */
  private static final int[] NO_NODES = {-1, 3, 8, MIN, MAX};
  private static final int[] NO_PLACES = {-1, 3, 5, MIN, MAX};
  private static final int[] NO_VARIABLES = {0, -1, 3, 5, MIN, MAX};

  private interface Call {
    void on(AffineHulls x);
  }

  public static void main(String[] args) {
    Due.each(
        BoundaryRefusalTest::term,
        BoundaryRefusalTest::edgeNodes,
        BoundaryRefusalTest::edgeKind,
        BoundaryRefusalTest::edgeVariable,
        BoundaryRefusalTest::edgeFull,
        BoundaryRefusalTest::entry,
        BoundaryRefusalTest::points,
        BoundaryRefusalTest::pointArguments,
        BoundaryRefusalTest::pointIndex,
        BoundaryRefusalTest::equations,
        BoundaryRefusalTest::coefficientArguments,
        BoundaryRefusalTest::coefficientIndex,
        BoundaryRefusalTest::holds,
        BoundaryRefusalTest::begin,
        BoundaryRefusalTest::goNoEdge,
        BoundaryRefusalTest::goFromElsewhere,
        BoundaryRefusalTest::at,
        BoundaryRefusalTest::noteNode,
        BoundaryRefusalTest::noteFull,
        BoundaryRefusalTest::noteAllUnsupported,
        BoundaryRefusalTest::argumentBeforeState,
        BoundaryRefusalTest::argumentBeforeIndex,
        BoundaryRefusalTest::stateBeforeIndex,
        BoundaryRefusalTest::stateBeforeUnsupported,
        BoundaryRefusalTest::neverAnalysed,
        BoundaryRefusalTest::notAnalysedAfterEdge,
        BoundaryRefusalTest::notAnalysedAfterEntry,
        BoundaryRefusalTest::notAnalysedAfterSameEntry,
        BoundaryRefusalTest::stillAnalysed);
    Due.end();
  }

  private static AffineHulls analysed() {
    AffineHulls x = new AffineHulls(3, 2);
    Make.assign(x, 0, 1, 1, 5);
    x.analyse();
    return x;
  }

  private static void term() {
    Due.sentence("IllegalArgumentException when k is not 0 .. V.", "term");
    AffineHulls x = new AffineHulls(3, 2);
    for (int k : NO_PLACES) {
      Due.badArgument("term(" + k + ", 1)", () -> x.term(k, 1));
    }
    x.term(0, 1);
    x.term(2, 1);
  }

  private static void edgeNodes() {
    Due.sentence("IllegalArgumentException when there is no such node", "edge");
    AffineHulls x = new AffineHulls(3, 2);
    for (int node : NO_NODES) {
      Due.badArgument("edge(" + node + ", 0, 0, 0)", () -> x.edge(node, 0, 0, 0));
      Due.badArgument("edge(0, " + node + ", 0, 0)", () -> x.edge(0, node, 0, 0));
      Due.badArgument("edge(" + node + ", " + node + ", 0, 0)", () -> x.edge(node, node, 0, 0));
    }
    Due.is("edge(0, 2, 0, 0)", x.edge(0, 2, 0, 0), 0);
    Due.is("edge(2, 0, 0, 0)", x.edge(2, 0, 0, 0), 1);
  }

  private static void edgeKind() {
    Due.sentence("IllegalArgumentException when there is no such ... kind", "edge");
    AffineHulls x = new AffineHulls(3, 2);
    for (int kind : new int[] {-1, 5, 6, MIN, MAX}) {
      Due.badArgument("edge(0, 1, " + kind + ", 1)", () -> x.edge(0, 1, kind, 1));
    }
    Due.is("edge(0, 1, 0, 1)", x.edge(0, 1, 0, 1), 0);
    Due.is("edge(0, 1, 4, 1)", x.edge(0, 1, 4, 1), 1);
  }

  private static void edgeVariable() {
    Due.sentence("IllegalArgumentException when there is no such ... (for 1 and 2) variable", "edge");
    AffineHulls x = new AffineHulls(3, 2);
    for (int kind = 1; kind <= 2; kind++) {
      int which = kind;
      for (int v : NO_VARIABLES) {
        Due.badArgument("edge(0, 1, " + kind + ", " + v + ")", () -> x.edge(0, 1, which, v));
      }
      Due.is("edge(0, 1, " + kind + ", 1)", x.edge(0, 1, kind, 1), 2 * kind - 2);
      Due.is("edge(0, 1, " + kind + ", 2)", x.edge(0, 1, kind, 2), 2 * kind - 1);
    }
  }

  private static void edgeFull() {
    Due.sentence("IllegalStateException when there are 20.");
    AffineHulls x = new AffineHulls(3, 2);
    Make.skips(x, 0, 1, 19);
    Due.is("edge 19", x.edge(0, 1, 1, 2), 19);
    for (int kind = 0; kind <= 4; kind++) {
      int which = kind;
      Due.badState("edge 20 of kind " + kind, () -> x.edge(0, 1, which, 1));
    }
  }

  private static void entry() {
    Due.sentence("IllegalArgumentException when there is none such.", "entry");
    AffineHulls x = new AffineHulls(3, 2);
    for (int node : NO_NODES) {
      Due.badArgument("entry(" + node + ")", () -> x.entry(node));
    }
    x.entry(2);
    x.entry(0);
  }

  private static void points() {
    Due.sentence("IllegalArgumentException when there is no such node; analysed.", "points");
    AffineHulls x = analysed();
    for (int node : NO_NODES) {
      Due.badArgument("points(" + node + ")", () -> x.points(node));
    }
    Due.is("points(2)", x.points(2), 0);
    Due.is("points(0)", x.points(0), 3);
  }

  private static void pointArguments() {
    Due.sentence("IllegalArgumentException when there is no such node, or k is not 0 .. V", "point");
    AffineHulls x = analysed();
    for (int node : NO_NODES) {
      Due.badArgument("point(" + node + ", 0, 0)", () -> x.point(node, 0, 0));
    }
    for (int k : NO_PLACES) {
      Due.badArgument("point(0, 0, " + k + ")", () -> x.point(0, 0, k));
    }
    Due.is("point(0, 2, 2)", x.point(0, 2, 2), 1);
    Due.is("point(0, 2, 0)", x.point(0, 2, 0), -1);
  }

  private static void pointIndex() {
    Due.sentence("IndexOutOfBoundsException when there is no such point.");
    AffineHulls x = analysed();
    int[] counts = {3, 2, 0};
    for (int node = 0; node < 3; node++) {
      int where = node;
      for (int i : new int[] {-1, counts[node], 3, MIN, MAX}) {
        Due.badIndex("point(" + node + ", " + i + ", 0)", () -> x.point(where, i, 0));
        Due.badIndex("point(" + node + ", " + i + ", 2)", () -> x.point(where, i, 2));
      }
    }
    Due.is("point(1, 1, 2)", x.point(1, 1, 2), 1);
    Due.is("point(1, 0, 1)", x.point(1, 0, 1), 5);
  }

  private static void equations() {
    Due.sentence("IllegalArgumentException when there is no such node; analysed.", "equations");
    AffineHulls x = analysed();
    for (int node : NO_NODES) {
      Due.badArgument("equations(" + node + ")", () -> x.equations(node));
    }
    Due.is("equations(0)", x.equations(0), 0);
    Due.is("equations(2)", x.equations(2), 3);
  }

  private static void coefficientArguments() {
    Due.sentence("IllegalArgumentException when there is no such node, or k is not 0 .. V", "coefficient");
    AffineHulls x = analysed();
    for (int node : NO_NODES) {
      Due.badArgument("coefficient(" + node + ", 0, 0)", () -> x.coefficient(node, 0, 0));
    }
    for (int k : NO_PLACES) {
      Due.badArgument("coefficient(2, 0, " + k + ")", () -> x.coefficient(2, 0, k));
    }
    Due.is("coefficient(2, 2, 0)", x.coefficient(2, 2, 0), 1);
    Due.is("coefficient(2, 1, 2)", x.coefficient(2, 1, 2), 1);
  }

  private static void coefficientIndex() {
    Due.sentence("IndexOutOfBoundsException when there is no such equation.");
    AffineHulls x = analysed();
    int[] counts = {0, 1, 3};
    for (int node = 0; node < 3; node++) {
      int where = node;
      for (int i : new int[] {-1, counts[node], 3, MIN, MAX}) {
        Due.badIndex("coefficient(" + node + ", " + i + ", 0)", () -> x.coefficient(where, i, 0));
        Due.badIndex("coefficient(" + node + ", " + i + ", 2)", () -> x.coefficient(where, i, 2));
      }
    }
    Due.is("coefficient(1, 0, 1)", x.coefficient(1, 0, 1), 1);
  }

  private static void holds() {
    Due.sentence("IllegalArgumentException when there is no such node; analysed.", "holds");
    AffineHulls x = analysed();
    for (int node : NO_NODES) {
      Due.badArgument("holds(" + node + ")", () -> x.holds(node));
    }
    Due.is("holds(0)", x.holds(0), true);
    Due.is("holds(2)", x.holds(2), true);
  }

  private static void begin() {
    Due.sentence("IllegalArgumentException when there is no such variable.", "begin");
    AffineHulls x = new AffineHulls(3, 2);
    for (int k : NO_VARIABLES) {
      Due.badArgument("begin(" + k + ", 1)", () -> x.begin(k, 1));
    }
    x.begin(1, 1);
    x.begin(2, 1);
  }

  private static void goNoEdge() {
    Due.sentence("IllegalArgumentException when there is no such edge", "go");
    AffineHulls x = new AffineHulls(3, 2);
    Due.badArgument("go(0, 0) without edges", () -> x.go(0, 0));
    Make.skips(x, 0, 0, 20);
    for (int edge : new int[] {-1, 20, 21, MIN, MAX}) {
      Due.badArgument("go(" + edge + ", 0)", () -> x.go(edge, 0));
    }
    Due.is("go(0, 0)", x.go(0, 0), true);
    Due.is("go(19, 0)", x.go(19, 0), true);
    AffineHulls y = new AffineHulls(3, 2);
    Make.skip(y, 0, 0);
    Due.badArgument("go(1, 0) with one edge", () -> y.go(1, 0));
  }

  private static void goFromElsewhere() {
    Due.sentence("or it does not go from where the run is.", "go");
    AffineHulls x = new AffineHulls(3, 2);
    Make.skip(x, 0, 1);
    Make.skip(x, 1, 2);
    Make.ask(x, 1, 2, 3, 1);
    Make.ask(x, 1, 1, 4, 0);
    for (int edge = 1; edge <= 3; edge++) {
      int which = edge;
      Due.badArgument("go(" + edge + ", 0) from node 0", () -> x.go(which, 0));
    }
    Due.is("go(0, 0)", x.go(0, 0), true);
    Due.badArgument("go(0, 0) from where it goes to", () -> x.go(0, 0));
    Due.is("go(2, 0) goes from there, but can't be gone", x.go(2, 0), false);
    x.entry(2);
    Due.badArgument("go(1, 0) from where the new entry is", () -> x.go(1, 0));
    x.entry(1);
    Due.is("go(1, 0)", x.go(1, 0), true);
    x.begin(1, 1);
    Due.badArgument("go(0, 0) after begin() at node 1", () -> x.go(0, 0));
  }

  private static void at() {
    Due.sentence("IllegalArgumentException when k is not 0 .. V.", "at");
    AffineHulls x = new AffineHulls(3, 2);
    for (int k : NO_PLACES) {
      Due.badArgument("at(" + k + ")", () -> x.at(k));
    }
    Due.is("at(0)", x.at(0), 0);
    Due.is("at(2)", x.at(2), 0);
  }

  private static void noteNode() {
    Due.sentence("IllegalArgumentException when there is no such node", "note");
    AffineHulls x = new AffineHulls(3, 2);
    for (int node : NO_NODES) {
      Due.badArgument("note(" + node + ")", () -> x.note(node));
    }
    Due.is("note(0)", x.note(0), 1);
    Due.is("note(2)", x.note(2), 2);
  }

  private static void noteFull() {
    Due.sentence("IllegalStateException when there are 24.");
    AffineHulls x = new AffineHulls(3, 2);
    Make.notes(x, 1, 23);
    Due.is("note 24", x.note(2), 24);
    for (int node = 0; node < 3; node++) {
      int where = node;
      Due.badState("note 25 at node " + node, () -> x.note(where));
    }
  }

  /** Six nodes that no edge reaches have 30 equations; four have 20. */
  private static void noteAllUnsupported() {
    Due.sentence("UnsupportedOperationException when there would be more than 24.");
    AffineHulls x = new AffineHulls(7, 4);
    x.analyse();
    Due.unsupported("noteAll() of 30", x::noteAll);
    AffineHulls y = new AffineHulls(6, 4);
    y.analyse();
    Due.unsupported("noteAll() of 25", y::noteAll);
    AffineHulls z = new AffineHulls(5, 4);
    z.analyse();
    Due.is("noteAll() of 20", z.noteAll(), 20);
    AffineHulls w = new AffineHulls(7, 3);
    w.analyse();
    Due.is("noteAll() of 24", w.noteAll(), 24);
  }

  private static void argumentBeforeState() {
    Due.sentence("Of several exceptions the one named first is thrown", "IllegalArgumentException before IllegalStateException");
    AffineHulls x = new AffineHulls(3, 2);
    Make.skips(x, 0, 1, 20);
    Make.notes(x, 1, 24);
    for (int node : NO_NODES) {
      Due.badArgument("edge(" + node + ", 0, 0, 0) with 20", () -> x.edge(node, 0, 0, 0));
      Due.badArgument("edge(0, " + node + ", 0, 0) with 20", () -> x.edge(0, node, 0, 0));
      Due.badArgument("points(" + node + "), not analysed", () -> x.points(node));
      Due.badArgument("point(" + node + ", 0, 0), not analysed", () -> x.point(node, 0, 0));
      Due.badArgument("equations(" + node + "), not analysed", () -> x.equations(node));
      Due.badArgument("coefficient(" + node + ", 0, 0), not analysed", () -> x.coefficient(node, 0, 0));
      Due.badArgument("holds(" + node + "), not analysed", () -> x.holds(node));
      Due.badArgument("note(" + node + ") with 24", () -> x.note(node));
    }
    Due.badArgument("edge(0, 1, -1, 1) with 20", () -> x.edge(0, 1, -1, 1));
    Due.badArgument("edge(0, 1, 5, 1) with 20", () -> x.edge(0, 1, 5, 1));
    for (int v : NO_VARIABLES) {
      Due.badArgument("edge(0, 1, 1, " + v + ") with 20", () -> x.edge(0, 1, 1, v));
      Due.badArgument("edge(0, 1, 2, " + v + ") with 20", () -> x.edge(0, 1, 2, v));
    }
    for (int k : NO_PLACES) {
      Due.badArgument("point(0, 0, " + k + "), not analysed", () -> x.point(0, 0, k));
      Due.badArgument("coefficient(0, 0, " + k + "), not analysed", () -> x.coefficient(0, 0, k));
    }
  }

  private static void argumentBeforeIndex() {
    Due.sentence("Of several exceptions the one named first is thrown", "IllegalArgumentException before IndexOutOfBoundsException");
    AffineHulls x = analysed();
    for (int i : new int[] {-1, 3, MIN, MAX}) {
      for (int node : NO_NODES) {
        Due.badArgument("point(" + node + ", " + i + ", 0)", () -> x.point(node, i, 0));
        Due.badArgument("coefficient(" + node + ", " + i + ", 0)", () -> x.coefficient(node, i, 0));
      }
      for (int k : NO_PLACES) {
        Due.badArgument("point(2, " + i + ", " + k + ")", () -> x.point(2, i, k));
        Due.badArgument("coefficient(0, " + i + ", " + k + ")", () -> x.coefficient(0, i, k));
      }
    }
  }

  private static void stateBeforeIndex() {
    Due.sentence("Of several exceptions the one named first is thrown", "IllegalStateException before IndexOutOfBoundsException");
    AffineHulls never = new AffineHulls(3, 2);
    AffineHulls once = analysed();
    once.edge(0, 0, 0, 0);
    for (int i : new int[] {-1, 0, 3, MIN, MAX}) {
      Due.badState("point(2, " + i + ", 0), never analysed", () -> never.point(2, i, 0));
      Due.badState("coefficient(0, " + i + ", 0), never analysed", () -> never.coefficient(0, i, 0));
      Due.badState("point(2, " + i + ", 0), changed", () -> once.point(2, i, 0));
      Due.badState("coefficient(0, " + i + ", 0), changed", () -> once.coefficient(0, i, 0));
    }
  }

  private static void stateBeforeUnsupported() {
    Due.sentence("Of several exceptions the one named first is thrown", "IllegalStateException before UnsupportedOperationException");
    AffineHulls x = new AffineHulls(8, 4);
    Due.badState("noteAll(), never analysed", x::noteAll);
    x.analyse();
    Due.unsupported("noteAll() of 35", x::noteAll);
    x.edge(0, 0, 0, 0);
    Due.badState("noteAll(), changed by edge()", x::noteAll);
    x.analyse();
    Due.unsupported("noteAll() of 35", x::noteAll);
    x.entry(1);
    Due.badState("noteAll(), changed by entry()", x::noteAll);
  }

  private static void isAnalysed(String when, AffineHulls x, boolean is) {
    Class<? extends RuntimeException> state = is ? null : IllegalStateException.class;
    Due.refuses("points(0) " + when, state, () -> x.points(0));
    Due.refuses("point(0, 0, 0) " + when, state, () -> x.point(0, 0, 0));
    Due.refuses("equations(0) " + when, state, () -> x.equations(0));
    Due.refuses("coefficient(2, 0, 0) " + when, state, () -> x.coefficient(2, 0, 0));
    Due.refuses("holds(0) " + when, state, () -> x.holds(0));
    Due.refuses("noteAll() " + when, state, x::noteAll);
  }

  private static void neverAnalysed() {
    Due.sentence("Where it says ANALYSED, IllegalStateException is thrown if there was no analyse()");
    AffineHulls x = new AffineHulls(3, 2);
    isAnalysed("on a new object", x, false);
    x.analyse();
    isAnalysed("after analyse() of no edge", x, true);
  }

  private static void notAnalysedAfterEdge() {
    Due.sentence("since the program was changed last (by edge() or entry())", "edge");
    for (int kind = 0; kind <= 4; kind++) {
      AffineHulls x = analysed();
      x.edge(2, 2, kind, 1);
      isAnalysed("after edge() of kind " + kind, x, false);
      x.analyse();
      isAnalysed("after analyse()", x, true);
    }
  }

  private static void notAnalysedAfterEntry() {
    Due.sentence("since the program was changed last (by edge() or entry())", "entry");
    AffineHulls x = analysed();
    x.entry(1);
    isAnalysed("after entry(1)", x, false);
    x.entry(0);
    isAnalysed("after entry(0), as it was", x, false);
    x.analyse();
    isAnalysed("after analyse()", x, true);
  }

  private static void notAnalysedAfterSameEntry() {
    Due.sentence("since the program was changed last (by edge() or entry())", "entry with the node that is the entry");
    AffineHulls x = analysed();
    x.entry(0);
    isAnalysed("after entry(0)", x, false);
  }

  private static void stillAnalysed() {
    Due.sentence("since the program was changed last (by edge() or entry())", "and by no other call");
    List<Call> calls = List.of(x -> x.term(1, 5), AffineHulls::analyse, x -> x.points(1), x -> x.holds(1),
        x -> x.begin(1, 4), x -> x.go(0, 0), x -> x.at(1), x -> x.note(1), AffineHulls::noteAll,
        AffineHulls::forget, AffineHulls::sound);
    for (int i = 0; i < calls.size(); i++) {
      AffineHulls x = analysed();
      calls.get(i).on(x);
      isAnalysed("after call " + i, x, true);
    }
    AffineHulls x = analysed();
    Due.badArgument("edge(0, 3, 0, 0)", () -> x.edge(0, 3, 0, 0));
    Due.badArgument("entry(3)", () -> x.entry(3));
    isAnalysed("after a refused edge() and entry()", x, true);
    Make.skips(x, 0, 1, 19);
    x.analyse();
    Due.badState("edge 20", () -> x.edge(0, 1, 0, 0));
    isAnalysed("after edge() when there are 20", x, true);
  }
}
