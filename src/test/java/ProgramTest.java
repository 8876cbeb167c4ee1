/** Promises 1 to 4: a new object, term, edge, entry. */
public final class ProgramTest {
  public static void main(String[] args) {
    sizes();
    newObject();
    term();
    edge();
    edgeRefused();
    edgesAreLimited();
    edgeClearsDraft();
    entry();
    Due.end();
  }

  private static void sizes() {
    int[][] cases = {
      {1, 1, 1, 1}, {8, 4, 8, 4}, {5, 3, 5, 3}, {0, 0, 1, 1}, {-7, -1, 1, 1}, {9, 5, 8, 4},
      {Integer.MIN_VALUE, Integer.MAX_VALUE, 1, 4}, {Integer.MAX_VALUE, Integer.MIN_VALUE, 8, 1}
    };
    for (int[] c : cases) {
      AffineHulls x = new AffineHulls(c[0], c[1]);
      String made = "AffineHulls(" + c[0] + ", " + c[1] + ")";
      x.entry(c[2] - 1);
      Due.badArgument(made + ".entry(N)", () -> x.entry(c[2]));
      x.term(c[3], 1);
      Due.badArgument(made + ".term(V + 1)", () -> x.term(c[3] + 1, 1));
      Due.is(made + ".analyse()", x.analyse(), c[3] + 1);
      Due.is(made + ".points(N - 1)", x.points(c[2] - 1), c[3] + 1);
    }
  }

  private static void newObject() {
    AffineHulls x = new AffineHulls(3, 2);
    for (int k = 0; k <= 2; k++) {
      Due.is("new: at(" + k + ")", x.at(k), 0);
    }
    Due.badState("new: equations(0)", () -> x.equations(0));
    Due.badArgument("new: go(0, 0)", () -> x.go(0, 0));
    Due.is("new: sound()", x.sound(), true);
    Due.is("new: forget()", x.forget(), 0);
    Due.is("new: analyse()", x.analyse(), 3);
    Due.is("new: points(0)", x.points(0), 3);
    Due.is("new: points(1)", x.points(1), 0);
    Due.is("new: holds(0), draft all 0", x.holds(0), true);
  }

  private static void term() {
    AffineHulls x = new AffineHulls(2, 2);
    Due.badArgument("term(-1, 1)", () -> x.term(-1, 1));
    Due.badArgument("term(3, 1)", () -> x.term(3, 1));
    Due.badArgument("term(MIN, 1)", () -> x.term(Integer.MIN_VALUE, 1));
    x.term(0, 5);
    x.term(0, -3);
    x.term(1, 65521 + 2);
    x.term(2, Integer.MIN_VALUE);
    Due.badArgument("term(3, 9)", () -> x.term(3, 9));
    x.edge(0, 1, 1, 1);
    x.go(0, 0);
    Due.is("the constant is the last one given", x.at(1), 65518);
    x.entry(0);
    x.begin(1, 10);
    x.begin(2, 1);
    x.go(0, 0);
    Due.is("coefficients modulo 65521", x.at(1),
        Math.floorMod(-3L + 20L + Integer.MIN_VALUE, 65521L));
  }

  private static void edge() {
    AffineHulls x = new AffineHulls(2, 2);
    Due.is("edge(0, 0, 0, 99)", x.edge(0, 0, 0, 99), 0);
    Due.is("edge(0, 1, 1, 1)", x.edge(0, 1, 1, 1), 1);
    Due.is("edge(1, 0, 2, 2)", x.edge(1, 0, 2, 2), 2);
    Due.is("edge(1, 1, 3, -5)", x.edge(1, 1, 3, -5), 3);
    Due.is("edge(1, 1, 4, MAX)", x.edge(1, 1, 4, Integer.MAX_VALUE), 4);
    Due.is("a second edge of the same kind", x.edge(0, 1, 1, 1), 5);
  }

  private static void edgeRefused() {
    AffineHulls x = new AffineHulls(2, 2);
    x.analyse();
    x.term(0, 7);
    int[][] bad = {
      {-1, 0, 0, 0}, {2, 0, 0, 0}, {0, -1, 0, 0}, {0, 2, 0, 0}, {0, 1, -1, 1}, {0, 1, 5, 1},
      {0, 1, 1, 0}, {0, 1, 1, 3}, {0, 1, 2, 0}, {0, 1, 2, 3}, {0, 1, 1, -1},
      {0, 1, 2, Integer.MIN_VALUE}, {Integer.MAX_VALUE, Integer.MIN_VALUE, 1, 1}
    };
    for (int[] b : bad) {
      Due.badArgument("edge(" + b[0] + ", " + b[1] + ", " + b[2] + ", " + b[3] + ")",
          () -> x.edge(b[0], b[1], b[2], b[3]));
    }
    Due.is("still analysed after refused edges", x.points(0), 3);
    Due.badArgument("no edge came of it", () -> x.go(0, 0));
    Due.is("first number", x.edge(0, 1, 1, 2), 0);
    x.go(0, 0);
    Due.is("the draft was kept", x.at(2), 7);
  }

  private static void edgesAreLimited() {
    AffineHulls x = new AffineHulls(2, 1);
    for (int i = 0; i < 20; i++) {
      Due.is("edge " + i, x.edge(0, 1, 0, 0), i);
    }
    x.analyse();
    x.term(1, 1);
    Due.badState("edge 20", () -> x.edge(0, 1, 0, 0));
    Due.badArgument("edge 20 to no node", () -> x.edge(0, 2, 0, 0));
    Due.badArgument("edge 20 of no variable", () -> x.edge(0, 1, 2, 2));
    Due.is("still analysed", x.points(1), 2);
    Due.is("the draft was kept", x.holds(0), false);
    Due.is("edge 19 can be gone", x.go(19, 0), true);
  }

  private static void edgeClearsDraft() {
    for (int kind = 0; kind <= 4; kind++) {
      AffineHulls x = new AffineHulls(2, 1);
      Due.draft(x, 3, 1);
      x.edge(0, 1, kind, 1);
      x.edge(0, 1, 1, 1);
      x.begin(1, 9);
      x.go(1, 0);
      Due.is("draft after an edge of kind " + kind, x.at(1), 0);
    }
  }

  private static void entry() {
    AffineHulls x = new AffineHulls(3, 1);
    x.begin(1, 5);
    x.analyse();
    Due.badArgument("entry(-1)", () -> x.entry(-1));
    Due.badArgument("entry(3)", () -> x.entry(3));
    Due.is("refused: still at", x.at(0), 0);
    Due.is("refused: still analysed", x.points(0), 2);
    x.entry(2);
    Due.is("the run is at the entry", x.at(0), 2);
    Due.is("with its values", x.at(1), 5);
    Due.badState("entry() changes the program", () -> x.points(2));
    x.analyse();
    Due.is("points at the entry", x.points(2), 2);
    Due.is("points at the old one", x.points(0), 0);
    x.edge(2, 1, 0, 0);
    x.go(0, 0);
    Due.is("gone on", x.at(0), 1);
    x.begin(1, 6);
    Due.is("begin goes to the entry", x.at(0), 2);
  }
}
