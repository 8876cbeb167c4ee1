import java.util.ArrayList;
import java.util.List;

/**
 * Long runs of mixed calls, wrong ones among them, answered by a second program too that is written
 * from the document alone and another way: every rank is computed afresh, and equations are looked
 * at for what they must be, not computed.
 */
public final class ModelTest {
  private static final int P = 65521;
  private static final int RUNS = 5000;
  private static final int CALLS = 512;

  /** One choice of oneCall takes no more calls than this: noteAll(), and 24 equations read. */
  private static final int MOST_AT_ONCE = 130;

  private static long seed = 20261119;
  private static int soundYes = 0;
  private static int soundNo = 0;

  public static void main(String[] args) {
    for (int run = 0; run < RUNS; run++) {
      oneRun(run);
      soundRun(run);
    }
    Due.is("sound() answered yes and no often enough", soundYes > 3000 && soundNo > 3000, true);
    Due.end();
  }

  /** Numbers that look like chance but are the same ones in every run of the test. */
  private static int any(int bound) {
    seed = seed * 6364136223846793005L + 1442695040888963407L;
    return (int) ((seed >>> 33) % bound);
  }

  private static int anyNumber() {
    switch (any(8)) {
      case 0: return any(P);
      case 1: return -any(5);
      case 2: return any(2) == 0 ? Integer.MIN_VALUE : Integer.MAX_VALUE;
      case 3: return P + any(3);
      default: return any(4);
    }
  }

  /** Mostly 0 .. top, now and then outside. */
  private static int anyUpTo(int top) {
    switch (any(40)) {
      case 0: return -1;
      case 1: return top + 1;
      default: return any(top + 1);
    }
  }

  private static void oneRun(int run) {
    int nodes = anyUpTo(9);
    int variables = anyUpTo(5);
    Counted x = new Counted(nodes, variables);
    Model m = new Model(nodes, variables);
    int edgesWanted = any(24);
    while (x.calls <= CALLS - MOST_AT_ONCE) {
      boolean early = x.calls < 6 * edgesWanted;
      oneCall("run " + run + ", call " + x.calls + ": ", x, m, early ? any(9) : 4 + any(20));
    }
    neverTooOften(x);
  }

  /** Few edges, few notes away from the entry, small numbers: here sound() is no foregone thing. */
  private static void soundRun(int run) {
    int variables = 1 + any(3);
    Counted x = new Counted(3, variables);
    Model m = new Model(3, variables);
    for (int edges = 1 + any(2); edges > 0; edges--) {
      smallDraft(x, m);
      int from = any(6) == 0 ? 0 : 1 + any(2);
      int to = 1 + any(2);
      int kind = any(5);
      int v = 1 + any(variables);
      same("edge", () -> x.edge(from, to, kind, v), () -> m.edge(from, to, kind, v));
    }
    for (int round = 0; round < 15; round++) {
      same("forget", x::forget, m::forget);
      for (int notes = 1 + any(5); notes > 0; notes--) {
        smallDraft(x, m);
        int node = 1 + any(2);
        same("note", () -> x.note(node), () -> m.note(node));
        same("sound run " + run + ", round " + round, () -> x.sound() ? 1 : 0, m::sound);
        soundYes += m.sound();
        soundNo += 1 - m.sound();
      }
    }
    neverTooOften(x);
  }

  private static void neverTooOften(Counted x) {
    Due.is("calls on one object", x.calls, Math.min(x.calls, CALLS));
  }

  private static void smallDraft(Counted x, Model m) {
    for (int k = 0; k <= m.v; k++) {
      int c = any(2) * (any(3) - 1);
      x.term(k, c);
      m.term(k, c);
    }
  }

  private static void oneCall(String at, Counted x, Model m, int choice) {
    int node = anyUpTo(m.n - 1);
    int k = anyUpTo(m.v);
    int i = anyUpTo(m.v);
    int number = anyNumber();
    switch (choice) {
      case 0: case 1: case 2: case 3: case 4: case 5: {
        same(at + "term " + k + " " + number, () -> { x.term(k, number); return 0; }, () -> m.term(k, number));
        break;
      }
      case 6: case 7: {
        int kind = anyUpTo(4);
        int to = anyUpTo(m.n - 1);
        if (m.edges.size() >= 12 && any(6) != 0) {
          break;
        }
        same(at + "edge " + node + " " + to + " " + kind + " " + k,
            () -> x.edge(node, to, kind, k), () -> m.edge(node, to, kind, k));
        break;
      }
      case 8: {
        if (any(4) == 0) {
          same(at + "entry " + node, () -> { x.entry(node); return 0; }, () -> m.entry(node));
        }
        break;
      }
      case 9: case 10: same(at + "analyse", x::analyse, m::analyse); break;
      case 11: same(at + "points " + node, () -> x.points(node), () -> m.points(node)); break;
      case 12: same(at + "point " + node + " " + i + " " + k, () -> x.point(node, i, k), () -> m.point(node, i, k)); break;
      case 13: same(at + "equations " + node, () -> x.equations(node), () -> m.equations(node)); break;
      case 14: checkEquations(at, x, m, node); checkCoefficient(at, x, m, node, i, k); break;
      case 15: {
        if (any(2) == 0) {
          draftAnEquation(x, m, node);
        }
        same(at + "holds " + node, () -> x.holds(node) ? 1 : 0, () -> m.holds(node));
        break;
      }
      case 16: same(at + "begin " + k + " " + number, () -> { x.begin(k, number); return 0; }, () -> m.begin(k, number)); break;
      case 17: case 18: {
        int edge = m.anyEdge();
        same(at + "go " + edge + " " + number, () -> x.go(edge, number) ? 1 : 0, () -> m.go(edge, number));
        break;
      }
      case 19: same(at + "at " + k, () -> x.at(k), () -> m.at(k)); break;
      case 20: {
        if (any(2) == 0) {
          draftAnEquation(x, m, node);
        }
        same(at + "note " + node, () -> x.note(node), () -> m.note(node));
        break;
      }
      case 21: same(at + "noteAll", x::noteAll, () -> m.noteAll(x)); break;
      case 22: {
        if (any(4) == 0) {
          same(at + "forget", x::forget, m::forget);
        }
        break;
      }
      default: same(at + "sound", () -> x.sound() ? 1 : 0, m::sound);
    }
  }

  private interface Call {
    int answer();
  }

  /** The object itself, with its calls counted: after 512 it may answer what it likes. */
  private static final class Counted {
    final AffineHulls x;
    int calls = 0;

    Counted(int nodes, int variables) {
      x = new AffineHulls(nodes, variables);
    }

    private AffineHulls next() {
      calls++;
      return x;
    }

    void term(int k, int c) {
      next().term(k, c);
    }

    int edge(int from, int to, int kind, int v) {
      return next().edge(from, to, kind, v);
    }

    void entry(int node) {
      next().entry(node);
    }

    int analyse() {
      return next().analyse();
    }

    int points(int node) {
      return next().points(node);
    }

    int point(int node, int i, int k) {
      return next().point(node, i, k);
    }

    int equations(int node) {
      return next().equations(node);
    }

    int coefficient(int node, int i, int k) {
      return next().coefficient(node, i, k);
    }

    boolean holds(int node) {
      return next().holds(node);
    }

    void begin(int k, int number) {
      next().begin(k, number);
    }

    boolean go(int edge, int number) {
      return next().go(edge, number);
    }

    int at(int k) {
      return next().at(k);
    }

    int note(int node) {
      return next().note(node);
    }

    int noteAll() {
      return next().noteAll();
    }

    int forget() {
      return next().forget();
    }

    boolean sound() {
      return next().sound();
    }
  }

  /** An exception counts as an answer of its own, below all others. */
  private static long answerOf(Call call) {
    try {
      return call.answer();
    } catch (IllegalArgumentException e) {
      return Long.MIN_VALUE;
    } catch (IllegalStateException e) {
      return Long.MIN_VALUE + 1;
    } catch (IndexOutOfBoundsException e) {
      return e.getClass() == IndexOutOfBoundsException.class ? Long.MIN_VALUE + 2 : Long.MIN_VALUE + 4;
    } catch (UnsupportedOperationException e) {
      return Long.MIN_VALUE + 3;
    } catch (RuntimeException e) {
      return Long.MIN_VALUE + 4;
    }
  }

  private static void same(String name, Call call, Call model) {
    long want = answerOf(model);
    Due.is(name, answerOf(call), want);
  }

  private static void draftAnEquation(Counted x, Model m, int node) {
    if (node < 0 || node >= m.n || !m.analysed || m.equations(node) == 0) {
      return;
    }
    int i = any(m.equations(node));
    int factor = 1 + any(3);
    for (int k = 0; k <= m.v; k++) {
      int c = x.coefficient(node, i, k) * factor;
      x.term(k, c);
      m.term(k, c);
    }
  }

  private static void checkCoefficient(String at, Counted x, Model m, int node, int i, int k) {
    long got = answerOf(() -> x.coefficient(node, i, k));
    long want = answerOf(() -> m.coefficient(x, node, i, k));
    Due.is(at + "coefficient " + node + " " + i + " " + k, got, want);
  }

  /** As many as there must be, reduced, and holding: then they are THE equations. */
  private static void checkEquations(String at, Counted x, Model m, int node) {
    if (node < 0 || node >= m.n || !m.analysed) {
      return;
    }
    int count = x.equations(node);
    int[][] rows = new int[count][];
    for (int i = 0; i < count; i++) {
      rows[i] = m.equation(x, node, i);
    }
    int last = -1;
    for (int i = 0; i < count; i++) {
      int[] row = rows[i];
      int first = m.firstPlace(row);
      Due.is(at + "equation " + i + " begins later", first > last, true);
      Due.is(at + "equation " + i + " begins with 1", first >= 0 && row[m.placeAt(first)] == 1, true);
      for (int other = 0; other < count && first >= 0; other++) {
        if (other != i) {
          Due.is(at + "0 in equation " + other, rows[other][m.placeAt(first)], 0);
        }
      }
      Due.is(at + "equation " + i + " holds", m.holdsForm(row, node), true);
      for (int c : row) {
        Due.is(at + "equation " + i + " has numbers", 0 <= c && c < P, true);
      }
      last = first;
    }
  }

  private static final class Model {
    final int n;
    final int v;
    int[] draft;
    final List<int[]> edges = new ArrayList<>();
    final List<int[]> edgeForms = new ArrayList<>();
    int entry = 0;
    boolean analysed = false;
    final List<List<int[]>> points = new ArrayList<>();
    final List<List<Integer>> origins = new ArrayList<>();
    int place = 0;
    final int[] values;
    final List<Integer> noteNodes = new ArrayList<>();
    final List<int[]> noteForms = new ArrayList<>();

    Model(int nodes, int variables) {
      n = nodes < 1 ? 1 : nodes > 8 ? 8 : nodes;
      v = variables < 1 ? 1 : variables > 4 ? 4 : variables;
      draft = new int[v + 1];
      values = new int[v + 1];
    }

    static int mod(long x) {
      return (int) ((x % P + P) % P);
    }

    void must(boolean good) {
      if (!good) {
        throw new IllegalArgumentException();
      }
    }

    void mustBeAnalysed() {
      if (!analysed) {
        throw new IllegalStateException();
      }
    }

    boolean isNode(int node) {
      return 0 <= node && node < n;
    }

    int value(int[] form, int[] row) {
      long sum = form[0];
      for (int k = 1; k <= v; k++) {
        sum = (sum + (long) form[k] * row[k]) % P;
      }
      return (int) sum;
    }

    int term(int k, int c) {
      must(0 <= k && k <= v);
      draft[k] = mod(c);
      return 0;
    }

    int edge(int from, int to, int kind, int variable) {
      must(isNode(from) && isNode(to) && 0 <= kind && kind <= 4);
      must(kind != 1 && kind != 2 || 1 <= variable && variable <= v);
      if (edges.size() == 20) {
        throw new IllegalStateException();
      }
      edges.add(new int[] {from, to, kind, variable});
      edgeForms.add(draft);
      draft = new int[v + 1];
      analysed = false;
      return edges.size() - 1;
    }

    int entry(int node) {
      must(isNode(node));
      entry = node;
      place = node;
      analysed = false;
      return 0;
    }

    int[] after(int edge, int[] row, int x) {
      int[] e = edges.get(edge);
      int[] next = row.clone();
      if (e[2] == 1) {
        next[e[3]] = value(edgeForms.get(edge), row);
      }
      if (e[2] == 2) {
        next[e[3]] = x;
      }
      return next;
    }

    int analyse() {
      points.clear();
      origins.clear();
      for (int node = 0; node < n; node++) {
        points.add(new ArrayList<>());
        origins.add(new ArrayList<>());
      }
      List<int[]> queue = new ArrayList<>();
      for (int k = 0; k <= v; k++) {
        int[] first = new int[v + 1];
        if (k > 0) {
          first[k] = 1;
        }
        queue.add(new int[] {entry, points.get(entry).size()});
        points.get(entry).add(first);
        origins.get(entry).add(-1);
      }
      for (int next = 0; next < queue.size(); next++) {
        int node = queue.get(next)[0];
        int number = queue.get(next)[1];
        for (int e = 0; e < edges.size(); e++) {
          if (edges.get(e)[0] != node) {
            continue;
          }
          for (int x = 0; x < (edges.get(e)[2] == 2 ? 2 : 1); x++) {
            int to = edges.get(e)[1];
            int[] row = after(e, points.get(node).get(number), x);
            if (!isIn(row, points.get(to))) {
              queue.add(new int[] {to, points.get(to).size()});
              points.get(to).add(row);
              origins.get(to).add(1000 * node + 10 * number + 10000 * e + x);
            }
          }
        }
      }
      analysed = true;
      return queue.size();
    }

    /** In an affine hull: the differences to its first point have the same rank with it. */
    boolean isIn(int[] row, List<int[]> others) {
      if (others.isEmpty()) {
        return false;
      }
      List<int[]> differences = new ArrayList<>();
      for (int[] other : others) {
        differences.add(difference(other, others.get(0)));
      }
      int before = rank(differences);
      differences.add(difference(row, others.get(0)));
      return rank(differences) == before;
    }

    int[] difference(int[] a, int[] b) {
      int[] d = new int[v + 1];
      for (int k = 0; k <= v; k++) {
        d[k] = mod(a[k] - b[k]);
      }
      return d;
    }

    /** Elimination without a division: rows are multiplied crosswise. */
    int rank(List<int[]> given) {
      List<int[]> rows = new ArrayList<>();
      for (int[] row : given) {
        rows.add(row.clone());
      }
      int rank = 0;
      for (int k = 0; k <= v; k++) {
        int pivot = rank;
        while (pivot < rows.size() && rows.get(pivot)[k] == 0) {
          pivot++;
        }
        if (pivot == rows.size()) {
          continue;
        }
        int[] top = rows.get(pivot);
        rows.set(pivot, rows.get(rank));
        rows.set(rank, top);
        for (int r = rank + 1; r < rows.size(); r++) {
          int[] row = rows.get(r);
          int factor = row[k];
          for (int j = 0; j <= v; j++) {
            row[j] = mod((long) row[j] * top[k] % P - (long) factor * top[j] % P);
          }
        }
        rank++;
      }
      return rank;
    }

    int points(int node) {
      must(isNode(node));
      mustBeAnalysed();
      return points.get(node).size();
    }

    int point(int node, int i, int k) {
      must(isNode(node) && 0 <= k && k <= v);
      mustBeAnalysed();
      if (i < 0 || i >= points.get(node).size()) {
        throw new IndexOutOfBoundsException();
      }
      return k == 0 ? origins.get(node).get(i) : points.get(node).get(i)[k];
    }

    int equations(int node) {
      must(isNode(node));
      mustBeAnalysed();
      List<int[]> rows = new ArrayList<>();
      for (int[] point : points.get(node)) {
        int[] row = point.clone();
        row[0] = 1;
        rows.add(row);
      }
      return v + 1 - rank(rows);
    }

    /** Right by checkEquations; here only who may ask. */
    int coefficient(Counted x, int node, int i, int k) {
      must(isNode(node) && 0 <= k && k <= v);
      mustBeAnalysed();
      if (i < 0 || i >= equations(node)) {
        throw new IndexOutOfBoundsException();
      }
      return x.coefficient(node, i, k);
    }

    int[] equation(Counted x, int node, int i) {
      int[] row = new int[v + 1];
      for (int k = 0; k <= v; k++) {
        row[k] = x.coefficient(node, i, k);
      }
      return row;
    }

    /** Number 0 .. V in the equations' order: variable 1, 2, .. V, constant. */
    int placeAt(int position) {
      return position == v ? 0 : position + 1;
    }

    int firstPlace(int[] row) {
      for (int position = 0; position <= v; position++) {
        if (row[placeAt(position)] != 0) {
          return position;
        }
      }
      return -1;
    }

    boolean holdsForm(int[] form, int node) {
      for (int[] point : points.get(node)) {
        if (value(form, point) != 0) {
          return false;
        }
      }
      return true;
    }

    int holds(int node) {
      must(isNode(node));
      mustBeAnalysed();
      boolean holds = holdsForm(draft, node);
      draft = new int[v + 1];
      return holds ? 1 : 0;
    }

    int begin(int k, int x) {
      must(1 <= k && k <= v);
      values[k] = mod(x);
      place = entry;
      return 0;
    }

    /** Mostly one that can be gone. */
    int anyEdge() {
      int edge = anyUpTo(Math.max(0, edges.size() - 1));
      for (int tries = 0; tries < 20 && any(8) != 0; tries++) {
        if (edge >= 0 && edge < edges.size() && edges.get(edge)[0] == place) {
          return edge;
        }
        edge = anyUpTo(Math.max(0, edges.size() - 1));
      }
      return edge;
    }

    int go(int edge, int x) {
      must(0 <= edge && edge < edges.size() && edges.get(edge)[0] == place);
      int[] e = edges.get(edge);
      boolean zero = value(edgeForms.get(edge), values) == 0;
      if (e[2] == 3 && !zero || e[2] == 4 && zero) {
        return 0;
      }
      System.arraycopy(after(edge, values, mod(x)), 0, values, 0, v + 1);
      place = e[1];
      return 1;
    }

    int at(int k) {
      must(0 <= k && k <= v);
      return k == 0 ? place : values[k];
    }

    int note(int node) {
      must(isNode(node));
      if (noteForms.size() == 24) {
        throw new IllegalStateException();
      }
      noteNodes.add(node);
      noteForms.add(draft);
      draft = new int[v + 1];
      return noteForms.size();
    }

    int noteAll(Counted x) {
      mustBeAnalysed();
      int sum = 0;
      for (int node = 0; node < n; node++) {
        sum += equations(node);
      }
      if (sum > 24) {
        throw new UnsupportedOperationException();
      }
      forget();
      for (int node = 0; node < n; node++) {
        for (int i = 0; i < equations(node); i++) {
          noteNodes.add(node);
          noteForms.add(equation(x, node, i));
        }
      }
      return sum;
    }

    int forget() {
      int count = noteForms.size();
      noteNodes.clear();
      noteForms.clear();
      return count;
    }

    /** A form's value before an edge, read off at the points 0 and 1 of each variable. */
    int[] before(int edge, int[] form, int x) {
      int[] zero = new int[v + 1];
      int[] result = new int[v + 1];
      result[0] = value(form, after(edge, zero, x));
      for (int k = 1; k <= v; k++) {
        int[] one = new int[v + 1];
        one[k] = 1;
        result[k] = mod(value(form, after(edge, one, x)) - result[0]);
      }
      return result;
    }

    int sound() {
      for (int node : noteNodes) {
        if (node == entry) {
          return 0;
        }
      }
      for (int e = 0; e < edges.size(); e++) {
        List<int[]> known = new ArrayList<>();
        for (int i = 0; i < noteForms.size(); i++) {
          if (noteNodes.get(i) == edges.get(e)[0]) {
            known.add(noteForms.get(i));
          }
        }
        if (edges.get(e)[2] == 3) {
          known.add(edgeForms.get(e));
        }
        int rank = rank(known);
        for (int i = 0; i < noteForms.size(); i++) {
          if (noteNodes.get(i) == edges.get(e)[1]) {
            known.add(before(e, noteForms.get(i), 0));
            known.add(before(e, noteForms.get(i), 1));
          }
        }
        if (rank(known) != rank) {
          return 0;
        }
      }
      return 1;
    }
  }
}
