import java.util.Arrays;

/**
 * A test for each sentence of the document that names a boundary case: the analysis, points and
 * equations, in the terms and in the promises 5 to 10. What they refuse is looked at in
 * BoundaryRefusalTest.
 */
public final class BoundaryAnalysisTest {
  public static void main(String[] args) {
    Due.each(
        BoundaryAnalysisTest::inEveryRun,
        BoundaryAnalysisTest::asksNothing,
        BoundaryAnalysisTest::noPointsAtFirst,
        BoundaryAnalysisTest::inNoPoints,
        BoundaryAnalysisTest::inItself,
        BoundaryAnalysisTest::sumIsOne,
        BoundaryAnalysisTest::inOfMany,
        BoundaryAnalysisTest::inWrapsAround,
        BoundaryAnalysisTest::firstPointsOfTheEntry,
        BoundaryAnalysisTest::orderOfNodes,
        BoundaryAnalysisTest::orderOfEdges,
        BoundaryAnalysisTest::orderOfNumbers,
        BoundaryAnalysisTest::newOnlyIfNotIn,
        BoundaryAnalysisTest::cameFrom,
        BoundaryAnalysisTest::holdsWithoutPoints,
        BoundaryAnalysisTest::holdsAtAllPoints,
        BoundaryAnalysisTest::atMostRows,
        BoundaryAnalysisTest::firstCoefficientIsOne,
        BoundaryAnalysisTest::zeroInOtherRows,
        BoundaryAnalysisTest::firstOnesComeLater,
        BoundaryAnalysisTest::allThatHolds,
        BoundaryAnalysisTest::noEquations,
        BoundaryAnalysisTest::withoutPoints,
        BoundaryAnalysisTest::primeModulus,
        BoundaryAnalysisTest::pointsInAll,
        BoundaryAnalysisTest::pointsOfANode,
        BoundaryAnalysisTest::originOfFirstPoints,
        BoundaryAnalysisTest::largestOrigin,
        BoundaryAnalysisTest::pointPlaces,
        BoundaryAnalysisTest::equationsOfANode,
        BoundaryAnalysisTest::coefficientPlaces,
        BoundaryAnalysisTest::draftAfterHolds,
        BoundaryAnalysisTest::analyseAgain);
    Due.end();
  }

  /** x + y - 3z is 2 at node 2 whatever the run began with, and however often it goes round there. */
  private static void inEveryRun() {
    Due.sentence("all affine equations that hold at their nodes in every run", "the least and largest numbers");
    AffineHulls x = new AffineHulls(3, 3);
    x.edge(0, 1, 2, 2);
    Make.assign(x, 1, 2, 1, 2, 0, -1, 3);
    Make.assign(x, 2, 1, 3, 1, 0, 0, 2);
    Due.is("analyse()", x.analyse(), 11);
    Due.is("equations(2)", x.equations(2), 1);
    Due.equationIs(x, 2, 0, 65519, 1, 1, 65518);
    for (int number : new int[] {0, 1, 2, 65520, 65521, -1, 32761, Integer.MIN_VALUE, Integer.MAX_VALUE}) {
      x.begin(1, number);
      x.begin(3, number);
      x.go(0, number);
      for (int round = 0; round < 3; round++) {
        x.go(1, 0);
        Due.is("at node 2, round " + round + ", from " + number, valueAt(x, 2, 0), 0);
        x.go(2, 0);
      }
    }
  }

  private static long valueAt(AffineHulls x, int node, int i) {
    long value = x.coefficient(node, i, 0);
    for (int k = 1; k <= 3; k++) {
      value += (long) x.coefficient(node, i, k) * x.at(k);
    }
    return value % 65521;
  }

  /** Node 1 over questions that no run can pass. */
  private static void asksNothing() {
    Due.sentence("THE ANALYSIS asks nothing: edges of kinds 3 and 4 are as those of kind 0 for it.");
    AffineHulls x = new AffineHulls(3, 2);
    Make.ask(x, 0, 1, 3, 1);
    Make.ask(x, 1, 2, 4, 0);
    Due.is("analyse()", x.analyse(), 9);
    Due.is("points(1)", x.points(1), 3);
    Due.is("points(2)", x.points(2), 3);
    Due.pointIs(x, 1, 2, 20, 0, 1);
    Due.pointIs(x, 2, 1, 11010, 1, 0);
    Due.is("equations(1): not even the question's form", x.equations(1), 0);
    Due.is("go(0, 0)", x.go(0, 0), false);
  }

  private static void noPointsAtFirst() {
    Due.sentence("Each node has POINTS, ... none at first.");
    AffineHulls x = new AffineHulls(8, 1);
    x.edge(0, 1, 0, 0);
    x.edge(2, 3, 0, 0);
    Due.is("analyse()", x.analyse(), 4);
    for (int node = 0; node < 8; node++) {
      Due.is("points(" + node + ")", x.points(node), node < 2 ? 2 : 0);
    }
    x.entry(2);
    Due.is("analyse() from node 2", x.analyse(), 4);
    Due.is("none are left at the old entry", x.points(0), 0);
    Due.is("nor where it led", x.points(1), 0);
    Due.is("points(3)", x.points(3), 2);
  }

  /** Row by row, node 2 gets x := values, each from a node of its own. */
  private static AffineHulls pointsAtTwo(int... values) {
    AffineHulls x = new AffineHulls(3, 1);
    for (int value : values) {
      Make.assign(x, 0, 2, 1, value);
    }
    x.analyse();
    return x;
  }

  private static void inNoPoints() {
    Due.sentence("A point is IN some others if there are numbers whose sum is 1", "no others");
    AffineHulls x = pointsAtTwo(0);
    Due.is("the point of 0s is new where none is", x.points(2), 1);
    Due.pointIs(x, 2, 0, 0, 0);
  }

  private static void inItself() {
    Due.sentence("A point is IN some others if there are numbers ... with which those others, value by value, sum up to it", "itself among them");
    Due.is("the same one", pointsAtTwo(5, 5).points(2), 1);
    Due.is("the same one, by other ints", pointsAtTwo(-1, 65520, 131041).points(2), 1);
    Due.is("two points and the second", pointsAtTwo(5, 6, 6).points(2), 2);
  }

  private static void sumIsOne() {
    Due.sentence("numbers whose sum is 1");
    Due.is("2 is twice 1, but not in it", pointsAtTwo(1, 2).points(2), 2);
    Due.is("0 is no times 1, but not in it", pointsAtTwo(1, 0).points(2), 2);
    Due.is("65520 is not in 1", pointsAtTwo(1, 65520).points(2), 2);
    Due.is("1 is not in 0", pointsAtTwo(0, 1).points(2), 2);
    Due.is("two points have all numbers in them", pointsAtTwo(3, 4, 0, 65520, 32761).points(2), 2);
  }

  /** Node 7 gets x := a, y := b for each pair, over nodes 1, 2, .. in this order. */
  private static AffineHulls pairsAtSeven(int[]... pairs) {
    AffineHulls x = new AffineHulls(8, 2);
    for (int i = 0; i < pairs.length; i++) {
      Make.assign(x, 0, i + 1, 1, pairs[i][0]);
    }
    for (int i = 0; i < pairs.length; i++) {
      Make.assign(x, i + 1, 7, 2, pairs[i][1]);
    }
    x.analyse();
    return x;
  }

  private static void inOfMany() {
    Due.sentence("with which those others, value by value, sum up to it");
    Due.is("on the line of two", pairsAtSeven(new int[][] {{0, 1}, {1, 3}, {7, 15}}).points(7), 2);
    Due.is("beside the line", pairsAtSeven(new int[][] {{0, 1}, {1, 3}, {7, 16}}).points(7), 3);
    Due.is("one value the same is not enough", pairsAtSeven(new int[][] {{2, 2}, {2, 3}, {3, 3}}).points(7), 3);
    Due.is("in three, V + 1, are all", pairsAtSeven(new int[][] {{0, 1}, {1, 3}, {7, 16}, {0, 0}, {9, 65520}}).points(7), 3);
    Due.is("twice a pair", pairsAtSeven(new int[][] {{1, 2}, {2, 4}}).points(7), 2);
    Due.is("the sum of two", pairsAtSeven(new int[][] {{1, 2}, {3, 1}, {4, 3}}).points(7), 3);
  }

  /** Half of (2, 1) is (1, 32761), as twice 32761 is 65522. */
  private static void inWrapsAround() {
    Due.sentence("sums and products are taken modulo 65521 (a prime)", "a point in others");
    Due.is("halfway", pairsAtSeven(new int[][] {{0, 0}, {2, 1}, {1, 32761}}).points(7), 2);
    Due.is("not halfway", pairsAtSeven(new int[][] {{0, 0}, {2, 1}, {1, 32760}}).points(7), 3);
    Due.is("beyond the end", pairsAtSeven(new int[][] {{65519, 1}, {65520, 2}, {1, 4}}).points(7), 2);
    Due.is("before the beginning", pairsAtSeven(new int[][] {{0, 0}, {1, 2}, {65520, 65519}}).points(7), 2);
    AffineHulls x = new AffineHulls(2, 1);
    Make.assign(x, 0, 1, 1, 65520, 1);
    x.analyse();
    Due.pointIs(x, 1, 0, 0, 65520);
    Due.pointIs(x, 1, 1, 10, 0);
  }

  private static void firstPointsOfTheEntry() {
    Due.sentence("First the entry has the points 0 .. V: that of 0s, and those in which just variable 1, .., V is 1.");
    for (int v = 1; v <= 4; v += 3) {
      AffineHulls x = new AffineHulls(8, v);
      x.entry(7);
      x.edge(7, 7, 2, 1);
      Due.is("analyse()", x.analyse(), v + 1);
      Due.is("points(7)", x.points(7), v + 1);
      for (int i = 0; i <= v; i++) {
        for (int k = 1; k <= v; k++) {
          Due.is("point(7, " + i + ", " + k + ")", x.point(7, i, k), i == k ? 1 : 0);
        }
      }
    }
  }

  /** Node 3 is reached over 2 before it is over 1, though 1 is the lesser node. */
  private static void orderOfNodes() {
    Due.sentence("the points are worked off in the order in which they came (at whatever nodes)");
    AffineHulls x = new AffineHulls(4, 1);
    Make.skip(x, 1, 3);
    Make.skip(x, 2, 3);
    Make.assign(x, 0, 2, 1, 22);
    Make.assign(x, 0, 1, 1, 11);
    Due.is("analyse()", x.analyse(), 6);
    Due.pointIs(x, 3, 0, 12000, 22);
    Due.pointIs(x, 3, 1, 1000, 11);
    AffineHulls y = new AffineHulls(2, 1);
    Make.assign(y, 1, 1, 1, 1, 1);
    Make.assign(y, 0, 1, 1, 0, 5);
    Due.is("analyse()", y.analyse(), 4);
    Due.pointIs(y, 1, 0, 10000, 0);
    Due.pointIs(y, 1, 1, 10010, 5);
  }

  private static void orderOfEdges() {
    Due.sentence("for each edge from its node, by its number");
    AffineHulls x = new AffineHulls(2, 1);
    for (int i = 0; i < 19; i++) {
      Make.assign(x, 1, 0, 1, i);
    }
    Make.assign(x, 0, 1, 1, 9);
    Due.is("only the last one is from the entry", x.analyse(), 3);
    Due.pointIs(x, 1, 0, 190000, 9);
    AffineHulls y = new AffineHulls(2, 1);
    Make.assign(y, 0, 1, 1, 9);
    Make.assign(y, 0, 1, 1, 8);
    Make.assign(y, 0, 1, 1, 7);
    Due.is("analyse()", y.analyse(), 4);
    Due.pointIs(y, 1, 0, 0, 9);
    Due.pointIs(y, 1, 1, 10000, 8);
  }

  private static void orderOfNumbers() {
    Due.sentence("(by kind 2 first with 0, then with 1 for the variable)");
    AffineHulls x = new AffineHulls(2, 2);
    Due.draft(x, 5, 5, 5);
    x.edge(0, 1, 2, 2);
    Due.is("analyse()", x.analyse(), 6);
    Due.pointIs(x, 1, 0, 0, 0, 0);
    Due.pointIs(x, 1, 1, 1, 0, 1);
    Due.pointIs(x, 1, 2, 10, 1, 0);
    AffineHulls y = new AffineHulls(2, 1);
    Make.assign(y, 0, 1, 1, 0);
    y.edge(0, 1, 2, 1);
    y.analyse();
    Due.pointIs(y, 1, 1, 10001, 1);
  }

  private static void newOnlyIfNotIn() {
    Due.sentence("is a new point of the node to which it goes, if it is not in the points that this has");
    AffineHulls x = new AffineHulls(8, 4);
    for (int node = 0; node < 8; node++) {
      Make.skip(x, node, (node + 1) % 8);
      Make.assign(x, node, node, 1, 1, 2, 3, 4, 5);
    }
    Due.is("a circle, and a loop at each node", x.analyse(), 40);
    for (int node = 0; node < 8; node++) {
      Due.is("points(" + node + "), full", x.points(node), 5);
    }
    AffineHulls y = new AffineHulls(2, 1);
    Make.assign(y, 0, 1, 1, 3);
    Make.assign(y, 0, 0, 1, 77);
    Due.is("the entry is full from the first", y.analyse(), 3);
  }

  private static void cameFrom() {
    Due.sentence("Each point but the first ones came FROM a point, by an edge (and, by kind 2, a number).");
    AffineHulls x = new AffineHulls(3, 2);
    Make.skip(x, 0, 1);
    Make.skip(x, 0, 1);
    x.edge(1, 2, 2, 1);
    x.analyse();
    Due.pointIs(x, 1, 2, 20, 0, 1);
    Due.pointIs(x, 2, 0, 21000, 0, 0);
    Due.pointIs(x, 2, 1, 21001, 1, 0);
    Due.pointIs(x, 2, 2, 21020, 0, 1);
  }

  private static void holdsWithoutPoints() {
    Due.sentence("it HOLDS at a node if its value is 0 for all points of the node", "no points");
    AffineHulls x = new AffineHulls(2, 2);
    x.analyse();
    Due.is("1 = 0", Make.holds(x, 1, 1, 0, 0), true);
    Due.is("x + 2y + 3 = 0", Make.holds(x, 1, 3, 1, 2), true);
    Due.is("0 = 0", Make.holds(x, 1, 0, 0, 0), true);
  }

  private static void holdsAtAllPoints() {
    Due.sentence("it HOLDS at a node if its value is 0 for all points of the node");
    AffineHulls x = new AffineHulls(1, 4);
    x.analyse();
    Due.is("only the first point says no", Make.holds(x, 0, 65520, 1, 1, 1, 1), false);
    Due.is("only the second", Make.holds(x, 0, 0, 1, 0, 0, 0), false);
    Due.is("only the last", Make.holds(x, 0, 0, 0, 0, 0, 1), false);
    Due.is("all 0", Make.holds(x, 0, 0, 0, 0, 0, 0), true);
    AffineHulls y = pairsAtSeven(new int[][] {{0, 1}, {1, 3}});
    Due.is("2x - y + 1", Make.holds(y, 7, 1, 2, -1), true);
    Due.is("65520 times as much", Make.holds(y, 7, 65520, 65519, 1), true);
    Due.is("2x - y", Make.holds(y, 7, 0, 2, -1), false);
  }

  private static void atMostRows() {
    Due.sentence("THE EQUATIONS of a node are the rows, at most V + 1");
    int[][] pairs = {{0, 1}, {1, 3}, {1, 4}};
    for (int count = 0; count <= 3; count++) {
      int[][] some = Arrays.copyOf(pairs, count);
      Due.is("equations(7) with " + count + " points", pairsAtSeven(some).equations(7), 3 - count);
    }
    AffineHulls x = new AffineHulls(2, 4);
    x.analyse();
    Due.is("equations(1)", x.equations(1), 5);
    Due.is("equations(0)", x.equations(0), 0);
  }

  private static void firstCoefficientIsOne() {
    Due.sentence("of which each coefficient of variable 1, 2, .. V, constant (in this order) that is the first one not 0 in its row is 1");
    AffineHulls x = pairsAtSeven(new int[][] {{0, 65520}, {2, 0}});
    Due.is("x - 2y - 2, not y - x/2 + 1", x.equations(7), 1);
    Due.equationIs(x, 7, 0, 65519, 1, 65519);
    AffineHulls y = new AffineHulls(2, 2);
    Make.assign(y, 0, 1, 2, 6);
    y.analyse();
    Due.equationIs(y, 1, 0, 65515, 0, 1);
  }

  /** y := -2z - 4, then x := -y - z, which is z + 4: x's row has no y any more. */
  private static void zeroInOtherRows() {
    Due.sentence("and 0 in all other rows");
    AffineHulls x = new AffineHulls(3, 3);
    Make.assign(x, 0, 1, 2, -4, 0, 0, -2);
    Make.assign(x, 1, 2, 1, 0, 0, -1, -1);
    x.analyse();
    Due.is("equations(2)", x.equations(2), 2);
    Due.equationIs(x, 2, 0, 65517, 1, 0, 65520);
    Due.equationIs(x, 2, 1, 4, 0, 1, 2);
  }

  private static void firstOnesComeLater() {
    Due.sentence("these first ones come later from row to row");
    AffineHulls x = new AffineHulls(4, 4);
    Make.assign(x, 0, 1, 4, 4);
    Make.assign(x, 1, 2, 1, 1);
    Make.assign(x, 2, 3, 3, 0, 0, 1);
    x.analyse();
    Due.is("equations(3)", x.equations(3), 3);
    Due.equationIs(x, 3, 0, 65520, 1, 0, 0, 0);
    Due.equationIs(x, 3, 1, 0, 0, 1, 65520, 0);
    Due.equationIs(x, 3, 2, 65517, 0, 0, 0, 1);
  }

  private static void allThatHolds() {
    Due.sentence("they hold, and each form that holds is a sum of multiples of them");
    AffineHulls x = pairsAtSeven(new int[][] {{5, 65520}});
    Due.equationIs(x, 7, 0, 65516, 1, 0);
    Due.equationIs(x, 7, 1, 1, 0, 1);
    Due.is("the first", Make.holds(x, 7, -5, 1, 0), true);
    Due.is("the second", Make.holds(x, 7, 1, 0, 1), true);
    Due.is("3 times and 65520 times", Make.holds(x, 7, -16, 3, 65520), true);
    Due.is("a constant more", Make.holds(x, 7, -15, 3, 65520), false);
  }

  private static void noEquations() {
    Due.sentence("each form that holds is a sum of multiples of them", "no equations: 0 alone");
    AffineHulls x = new AffineHulls(1, 4);
    x.analyse();
    Due.is("equations(0)", x.equations(0), 0);
    Due.is("0 holds", x.holds(0), true);
    Due.is("1 does not", Make.holds(x, 0, 1), false);
  }

  private static void withoutPoints() {
    Due.sentence("(So a node without points has V + 1 of them.)");
    for (int v = 1; v <= 4; v++) {
      AffineHulls x = new AffineHulls(2, v);
      x.analyse();
      Due.is("equations(1), V = " + v, x.equations(1), v + 1);
      for (int i = 0; i <= v; i++) {
        for (int k = 0; k <= v; k++) {
          int one = i == v ? 0 : i + 1;
          Due.is("coefficient(1, " + i + ", " + k + ")", x.coefficient(1, i, k), k == one ? 1 : 0);
        }
      }
    }
  }

  private static void primeModulus() {
    Due.sentence("modulo 65521 (a prime)", "each number but 0 divides 1");
    for (int a : new int[] {1, 2, 3, 15, 255, 256, 257, 4096, 32760, 32761, 65519, 65520}) {
      AffineHulls x = new AffineHulls(2, 2);
      Make.assign(x, 0, 1, 2, 0, a);
      x.analyse();
      Due.equationIs(x, 1, 0, 0, 1);
      Due.is("y := " + a + "x", (long) x.coefficient(1, 0, 2) * a % 65521, 65520);
    }
  }

  private static void pointsInAll() {
    Due.sentence("THE ANALYSIS: how many points there are in all.");
    Due.is("the least program", new AffineHulls(1, 1).analyse(), 2);
    Due.is("no edge", new AffineHulls(8, 4).analyse(), 5);
    AffineHulls x = new AffineHulls(8, 4);
    for (int node = 1; node < 8; node++) {
      Make.skip(x, 0, node);
    }
    Due.is("the most points", x.analyse(), 40);
    AffineHulls y = new AffineHulls(8, 4);
    Make.skip(y, 1, 0);
    Due.is("an edge that is not reached", y.analyse(), 5);
  }

  private static void pointsOfANode() {
    Due.sentence("How many points a node has.");
    AffineHulls x = new AffineHulls(8, 4);
    for (int node = 1; node <= 4; node++) {
      Make.assign(x, node - 1, node, node, 0);
    }
    Due.is("analyse()", x.analyse(), 15);
    for (int node = 0; node < 8; node++) {
      Due.is("points(" + node + ")", x.points(node), node > 4 ? 0 : 5 - node);
    }
  }

  private static void originOfFirstPoints() {
    Due.sentence("where it came from: -1 for a first point");
    AffineHulls x = new AffineHulls(2, 4);
    x.entry(1);
    x.edge(1, 1, 2, 3);
    x.analyse();
    for (int i = 0; i <= 4; i++) {
      Due.is("point(1, " + i + ", 0)", x.point(1, i, 0), -1);
    }
    Make.skip(x, 1, 0);
    x.analyse();
    Due.is("0 is an origin elsewhere: 11000", x.point(0, 0, 0), 11000);
  }

  private static void largestOrigin() {
    Due.sentence("else 1000 times the node, + 10 times the point's number there, + the edge's number times 10000, + the number 0 or 1 for kind 2");
    AffineHulls x = new AffineHulls(8, 4);
    Make.skips(x, 0, 0, 18);
    x.entry(7);
    Make.assign(x, 7, 6, 4, 0);
    x.edge(7, 6, 2, 4);
    x.analyse();
    Due.is("point 4 of the entry brings node 6 nothing", x.points(6), 5);
    Due.pointIs(x, 6, 0, 187000, 0, 0, 0, 0);
    Due.pointIs(x, 6, 1, 197001, 0, 0, 0, 1);
    Due.pointIs(x, 6, 2, 187010, 1, 0, 0, 0);
    Due.pointIs(x, 6, 4, 187030, 0, 0, 1, 0);
    AffineHulls y = new AffineHulls(8, 4);
    Make.skips(y, 0, 0, 19);
    y.entry(7);
    Make.assign(y, 7, 6, 4, 1, 0, 0, 0, 2);
    y.analyse();
    Due.pointIs(y, 6, 4, 197040, 0, 0, 0, 3);
    AffineHulls z = new AffineHulls(2, 1);
    Make.skip(z, 0, 1);
    z.analyse();
    Due.pointIs(z, 1, 0, 0, 0);
  }

  private static void pointPlaces() {
    Due.sentence("Of point i of a node: the value of variable k, or with k = 0 where it came from");
    AffineHulls x = new AffineHulls(2, 4);
    Make.assign(x, 0, 1, 4, 65520, 0, 0, 0, 65520);
    x.analyse();
    Due.pointIs(x, 1, 0, 0, 0, 0, 0, 65520);
    Due.pointIs(x, 1, 4, 40, 0, 0, 0, 65519);
    Due.badIndex("point(1, 5, 4)", () -> x.point(1, 5, 4));
    Due.badIndex("point(1, -1, 4)", () -> x.point(1, -1, 4));
  }

  private static void equationsOfANode() {
    Due.sentence("How many equations a node has.");
    AffineHulls x = new AffineHulls(8, 4);
    for (int node = 1; node <= 4; node++) {
      Make.assign(x, node - 1, node, node, 0);
    }
    x.analyse();
    for (int node = 0; node < 8; node++) {
      Due.is("equations(" + node + ")", x.equations(node), node > 4 ? 5 : node);
    }
  }

  private static void coefficientPlaces() {
    Due.sentence("Coefficient k (0: the constant) of equation i of a node.");
    AffineHulls x = new AffineHulls(8, 4);
    Make.assign(x, 0, 7, 4, 65520);
    x.analyse();
    Due.equationIs(x, 7, 0, 1, 0, 0, 0, 1);
    Due.badIndex("coefficient(7, 1, 0)", () -> x.coefficient(7, 1, 0));
    Due.equationIs(x, 6, 4, 1, 0, 0, 0, 0);
    Due.badIndex("coefficient(6, 5, 0)", () -> x.coefficient(6, 5, 0));
    Due.badIndex("coefficient(0, 0, 0)", () -> x.coefficient(0, 0, 0));
    Due.badIndex("coefficient(6, -1, 0)", () -> x.coefficient(6, -1, 0));
  }

  private static void draftAfterHolds() {
    Due.sentence("it is all 0 then (unless it throws)");
    for (int node = 0; node < 2; node++) {
      AffineHulls x = new AffineHulls(2, 2);
      x.analyse();
      Due.is("holds(" + node + ")", Make.holds(x, node, 7, 1, 1), node == 1);
      x.begin(1, 100);
      x.begin(2, 1000);
      Due.is("the draft", Make.draftValue(x), 0);
    }
    AffineHulls x = new AffineHulls(2, 2);
    Due.draft(x, 7, 1, 1);
    x.begin(2, 1000);
    Due.badState("holds(0) before analyse()", () -> x.holds(0));
    x.analyse();
    Due.badArgument("holds(2)", () -> x.holds(2));
    Due.is("the draft is kept", Make.draftValue(x), 1007);
  }

  private static void analyseAgain() {
    Due.sentence("THE ANALYSIS: how many points there are in all.", "a second time");
    AffineHulls x = new AffineHulls(4, 2);
    Make.skip(x, 0, 1);
    Due.is("analyse()", x.analyse(), 6);
    Due.is("analyse() again", x.analyse(), 6);
    Due.is("points(0)", x.points(0), 3);
    Due.pointIs(x, 1, 2, 20, 0, 1);
    Make.assign(x, 1, 2, 1, 5);
    Due.is("with an edge more", x.analyse(), 8);
    x.entry(2);
    Due.is("from the last node", x.analyse(), 3);
    Due.is("equations(1)", x.equations(1), 3);
    x.entry(0);
    Due.is("and from the first", x.analyse(), 8);
    Due.equationIs(x, 2, 0, 65516, 1, 0);
    x.entry(3);
    Due.is("and from where no edge goes", x.analyse(), 3);
    Due.equationIs(x, 2, 0, 0, 1, 0);
    Due.equationIs(x, 2, 1, 0, 0, 1);
    Due.equationIs(x, 2, 2, 1, 0, 0);
  }
}
