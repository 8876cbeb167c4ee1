/** Promises 5 to 7: analyse, points, point. */
public final class AnalysisTest {
  public static void main(String[] args) {
    firstPoints();
    orderOfArrival();
    forgottenVariable();
    loopOnOneNode();
    questionsArePassedOver();
    secondAnalysis();
    entryElsewhere();
    largest();
    refused();
    Due.end();
  }

  private static void firstPoints() {
    AffineHulls x = new AffineHulls(1, 3);
    Due.is("analyse()", x.analyse(), 4);
    Due.pointIs(x, 0, 0, -1, 0, 0, 0);
    Due.pointIs(x, 0, 1, -1, 1, 0, 0);
    Due.pointIs(x, 0, 2, -1, 0, 1, 0);
    Due.pointIs(x, 0, 3, -1, 0, 0, 1);
  }

  /** Node 3 is reached over node 2 with x = 7, and over node 1 with x = 5: node 2's point came first. */
  private static void orderOfArrival() {
    AffineHulls x = new AffineHulls(4, 1);
    Due.draft(x, 7, 0);
    x.edge(0, 2, 1, 1);
    Due.draft(x, 5, 0);
    x.edge(0, 1, 1, 1);
    x.edge(1, 3, 0, 0);
    x.edge(2, 3, 0, 0);
    Due.is("analyse()", x.analyse(), 6);
    Due.is("points(3)", x.points(3), 2);
    Due.pointIs(x, 2, 0, 0, 7);
    Due.pointIs(x, 1, 0, 10000, 5);
    Due.pointIs(x, 3, 0, 32000, 7);
    Due.pointIs(x, 3, 1, 21000, 5);
  }

  private static void forgottenVariable() {
    AffineHulls x = new AffineHulls(2, 2);
    Due.draft(x, 4, 0, 0);
    x.edge(0, 1, 1, 2);
    x.edge(1, 1, 2, 1);
    x.edge(1, 1, 2, 2);
    Due.is("analyse()", x.analyse(), 6);
    Due.pointIs(x, 1, 0, 0, 0, 4);
    Due.pointIs(x, 1, 1, 10, 1, 4);
    Due.pointIs(x, 1, 2, 21000, 0, 0);
    Due.is("with 1 nothing new comes", x.points(1), 3);

    AffineHulls y = new AffineHulls(2, 1);
    Due.draft(y, 9, 0);
    y.edge(0, 1, 1, 1);
    y.edge(0, 1, 2, 1);
    Due.is("analyse()", y.analyse(), 4);
    Due.pointIs(y, 1, 0, 0, 9);
    Due.pointIs(y, 1, 1, 10000, 0);

    AffineHulls z = new AffineHulls(2, 1);
    z.edge(0, 1, 2, 1);
    z.analyse();
    Due.pointIs(z, 1, 0, 0, 0);
    Due.pointIs(z, 1, 1, 1, 1);
  }

  private static void loopOnOneNode() {
    AffineHulls x = new AffineHulls(2, 2);
    x.edge(0, 1, 0, 0);
    x.entry(1);
    Due.draft(x, 1, 1, 0);
    x.edge(1, 1, 1, 1);
    Due.is("a loop at the entry adds none", x.analyse(), 3);
    AffineHulls y = new AffineHulls(3, 2);
    y.edge(0, 1, 1, 1);
    y.edge(1, 2, 1, 2);
    Due.draft(y, 1, 1, 0);
    y.edge(2, 2, 1, 1);
    Due.draft(y, 2, 0, 1);
    y.edge(2, 2, 1, 2);
    Due.is("analyse()", y.analyse(), 8);
    Due.pointIs(y, 2, 0, 11000, 0, 0);
    Due.pointIs(y, 2, 1, 22000, 1, 0);
    Due.pointIs(y, 2, 2, 32000, 0, 2);
  }

  private static void questionsArePassedOver() {
    AffineHulls x = new AffineHulls(3, 1);
    Due.draft(x, 1, 0);
    x.edge(0, 1, 3, 0);
    x.edge(0, 2, 4, 0);
    Due.is("analyse()", x.analyse(), 6);
    Due.pointIs(x, 1, 0, 0, 0);
    Due.pointIs(x, 1, 1, 10, 1);
    Due.pointIs(x, 2, 0, 10000, 0);
    Due.pointIs(x, 2, 1, 10010, 1);
  }

  private static void secondAnalysis() {
    AffineHulls x = new AffineHulls(2, 1);
    Due.is("analyse()", x.analyse(), 2);
    Due.is("again", x.analyse(), 2);
    x.edge(0, 1, 1, 1);
    Due.badState("points after edge()", () -> x.points(0));
    Due.is("with an edge", x.analyse(), 3);
    Due.is("points(1)", x.points(1), 1);
    x.entry(1);
    Due.badState("points after entry()", () -> x.points(0));
    Due.is("from the other node", x.analyse(), 2);
    Due.is("points(0)", x.points(0), 0);
    Due.badIndex("point(0, 0, 1)", () -> x.point(0, 0, 1));
  }

  private static void entryElsewhere() {
    AffineHulls x = new AffineHulls(8, 1);
    for (int i = 0; i < 19; i++) {
      x.edge(0, 0, 0, 0);
    }
    x.edge(7, 0, 2, 1);
    x.entry(7);
    x.analyse();
    Due.pointIs(x, 7, 1, -1, 1);
    Due.pointIs(x, 0, 0, 197000, 0);
    Due.pointIs(x, 0, 1, 197001, 1);
  }

  private static void largest() {
    AffineHulls x = new AffineHulls(8, 4);
    for (int i = 0; i < 7; i++) {
      x.edge(i, i + 1, 0, 0);
    }
    Due.is("analyse()", x.analyse(), 40);
    Due.pointIs(x, 7, 4, 66040, 0, 0, 0, 1);
  }

  private static void refused() {
    AffineHulls x = new AffineHulls(2, 1);
    Due.badState("points(0) before analyse()", () -> x.points(0));
    Due.badArgument("points(2) before analyse()", () -> x.points(2));
    Due.badArgument("points(-1) before analyse()", () -> x.points(-1));
    Due.badState("point(0, 9, 0) before analyse()", () -> x.point(0, 9, 0));
    Due.badArgument("point(2, 0, 0) before analyse()", () -> x.point(2, 0, 0));
    Due.badArgument("point(0, 0, 2) before analyse()", () -> x.point(0, 0, 2));
    x.analyse();
    Due.badArgument("points(2)", () -> x.points(2));
    Due.badArgument("point(-1, 9, 0)", () -> x.point(-1, 9, 0));
    Due.badArgument("point(0, 9, -1)", () -> x.point(0, 9, -1));
    Due.badArgument("point(0, -1, 2)", () -> x.point(0, -1, 2));
    Due.badIndex("point(0, 2, 0)", () -> x.point(0, 2, 0));
    Due.badIndex("point(0, -1, 1)", () -> x.point(0, -1, 1));
    Due.badIndex("point(1, 0, 0)", () -> x.point(1, 0, 0));
    Due.badIndex("point(0, MAX, 0)", () -> x.point(0, Integer.MAX_VALUE, 0));
  }
}
