import java.util.Arrays;

/**
 * Programs as graphs of steps that assign, forget and ask, and all affine equations that hold at
 * their nodes in every run when questions are passed over.
 *
 * <p>Every row (form, point, values of the run) has V + 1 places: 1 .. V are the variables', 0 is
 * the constant's. Points and values have a 1 at place 0, so that a form's value is one sum of
 * products, and so that a point is in others just when its row is a sum of multiples of theirs.
 */
public final class AffineHulls {
  private static final int MODULUS = 65521;
  private static final int MOST_NODES = 8;
  private static final int MOST_VARIABLES = 4;
  private static final int MOST_EDGES = 20;
  private static final int MOST_NOTES = 24;

  private static final int ASSIGN = 1;
  private static final int FORGET = 2;
  private static final int ASK_ZERO = 3;
  private static final int ASK_OTHER = 4;

  private static final int NO_ORIGIN = -1;

  private final int variables;
  private final int[] draft;

  private final Edge[] edges;
  private int edgeCount;
  private int entryNode;

  private final Hull[] hulls;
  private final Point[] arrivals;
  private int arrivalCount;
  private boolean analysed;

  private int place;
  private final int[] values;

  private final Note[] notes;
  private int noteCount;
  private final Span noteSpan;

  private final int[] work;

  public AffineHulls(int nodes, int variables) {
    int nodeCount = Math.max(1, Math.min(MOST_NODES, nodes));
    this.variables = Math.max(1, Math.min(MOST_VARIABLES, variables));
    int width = this.variables + 1;
    draft = new int[width];
    work = new int[width];
    values = new int[width];
    values[0] = 1;
    noteSpan = new Span(width);
    edges = new Edge[MOST_EDGES];
    for (int i = 0; i < MOST_EDGES; i++) {
      edges[i] = new Edge(width);
    }
    notes = new Note[MOST_NOTES];
    for (int i = 0; i < MOST_NOTES; i++) {
      notes[i] = new Note(width);
    }
    hulls = new Hull[nodeCount];
    for (int i = 0; i < nodeCount; i++) {
      hulls[i] = new Hull(width);
    }
    arrivals = new Point[nodeCount * width];
    for (int i = 0; i < arrivals.length; i++) {
      arrivals[i] = new Point(width);
    }
  }

  public void term(int k, int c) throws IllegalArgumentException {
    requirePlace(k);
    draft[k] = number(c);
  }

  public int edge(int from, int to, int kind, int v)
      throws IllegalArgumentException, IllegalStateException {
    requireNode(from);
    requireNode(to);
    if (kind < 0 || kind > ASK_OTHER) {
      throw new IllegalArgumentException("no such kind");
    }
    if (kind == ASSIGN || kind == FORGET) {
      requireVariable(v);
    }
    if (edgeCount >= MOST_EDGES) {
      throw new IllegalStateException("no more edges");
    }
    edges[edgeCount].set(from, to, kind, v, draft);
    edgeCount++;
    clearDraft();
    analysed = false;
    return edgeCount - 1;
  }

  public void entry(int node) throws IllegalArgumentException {
    requireNode(node);
    entryNode = node;
    place = node;
    analysed = false;
  }

  public int analyse() {
    forgetPoints();
    addFirstPoints();
    for (int i = 0; i < arrivals.length && i < arrivalCount; i++) {
      workOff(arrivals[i]);
    }
    analysed = true;
    return arrivalCount;
  }

  public int points(int node) throws IllegalArgumentException, IllegalStateException {
    requireNode(node);
    requireAnalysed();
    return hulls[node].pointCount;
  }

  public int point(int node, int i, int k)
      throws IllegalArgumentException, IllegalStateException, IndexOutOfBoundsException {
    requireNode(node);
    requirePlace(k);
    requireAnalysed();
    Hull hull = hulls[node];
    if (i < 0 || i >= hull.pointCount) {
      throw new IndexOutOfBoundsException("no such point");
    }
    Point point = arrivals[hull.members[i]];
    return k == 0 ? point.origin : point.row[k];
  }

  public int equations(int node) throws IllegalArgumentException, IllegalStateException {
    requireNode(node);
    requireAnalysed();
    return hulls[node].equationCount();
  }

  public int coefficient(int node, int i, int k)
      throws IllegalArgumentException, IllegalStateException, IndexOutOfBoundsException {
    requireNode(node);
    requirePlace(k);
    requireAnalysed();
    Hull hull = hulls[node];
    if (i < 0 || i >= hull.equationCount()) {
      throw new IndexOutOfBoundsException("no such equation");
    }
    return hull.span.vanishing(hull.span.freePlace(i), k);
  }

  public boolean holds(int node) throws IllegalArgumentException, IllegalStateException {
    requireNode(node);
    requireAnalysed();
    boolean answer = holdsAtPoints(hulls[node]);
    clearDraft();
    return answer;
  }

  public void begin(int k, int x) throws IllegalArgumentException {
    requireVariable(k);
    values[k] = number(x);
    place = entryNode;
  }

  public boolean go(int edge, int x) throws IllegalArgumentException {
    if (edge < 0 || edge >= edgeCount) {
      throw new IllegalArgumentException("no such edge");
    }
    Edge way = edges[edge];
    if (way.from != place) {
      throw new IllegalArgumentException("the run is not where the edge begins");
    }
    if (!way.isOpen(values)) {
      return false;
    }
    way.step(values, number(x));
    place = way.to;
    return true;
  }

  public int at(int k) throws IllegalArgumentException {
    requirePlace(k);
    return k == 0 ? place : values[k];
  }

  public int note(int node) throws IllegalArgumentException, IllegalStateException {
    requireNode(node);
    if (noteCount >= MOST_NOTES) {
      throw new IllegalStateException("no more notes");
    }
    notes[noteCount].set(node, draft);
    noteCount++;
    clearDraft();
    return noteCount;
  }

  public int noteAll() throws IllegalStateException, UnsupportedOperationException {
    requireAnalysed();
    int total = 0;
    for (int node = 0; node < hulls.length; node++) {
      total += hulls[node].equationCount();
    }
    if (total > MOST_NOTES) {
      throw new UnsupportedOperationException("too many equations");
    }
    noteCount = 0;
    for (int node = 0; node < hulls.length; node++) {
      noteEquations(node);
    }
    return noteCount;
  }

  public int forget() {
    int before = noteCount;
    noteCount = 0;
    return before;
  }

  public boolean sound() {
    for (int i = 0; i < noteCount; i++) {
      if (notes[i].node == entryNode) {
        return false;
      }
    }
    for (int i = 0; i < edgeCount; i++) {
      if (!keepsNotes(edges[i])) {
        return false;
      }
    }
    return true;
  }

  private void requireNode(int node) {
    if (node < 0 || node >= hulls.length) {
      throw new IllegalArgumentException("no such node");
    }
  }

  private void requireVariable(int v) {
    if (v < 1 || v > variables) {
      throw new IllegalArgumentException("no such variable");
    }
  }

  private void requirePlace(int k) {
    if (k < 0 || k > variables) {
      throw new IllegalArgumentException("neither 0 nor a variable");
    }
  }

  private void requireAnalysed() {
    if (!analysed) {
      throw new IllegalStateException("not analysed");
    }
  }

  private void clearDraft() {
    Arrays.fill(draft, 0);
  }

  private void forgetPoints() {
    arrivalCount = 0;
    for (int node = 0; node < hulls.length; node++) {
      hulls[node].clear();
    }
  }

  private void addFirstPoints() {
    for (int v = 0; v <= variables; v++) {
      Arrays.fill(work, 0);
      work[v] = 1;
      work[0] = 1;
      addPoint(entryNode, work, NO_ORIGIN);
    }
  }

  private void workOff(Point point) {
    for (int i = 0; i < edgeCount; i++) {
      if (edges[i].from == point.node) {
        follow(i, point, 0);
        if (edges[i].kind == FORGET) {
          follow(i, point, 1);
        }
      }
    }
  }

  private void follow(int edge, Point point, int x) {
    copy(point.row, work);
    edges[edge].step(work, x);
    int origin = 10000 * edge + 1000 * point.node + 10 * point.index + x;
    addPoint(edges[edge].to, work, origin);
  }

  private void addPoint(int node, int[] row, int origin) {
    Hull hull = hulls[node];
    if (arrivalCount < arrivals.length && hull.span.add(row)) {
      arrivals[arrivalCount].set(node, hull.pointCount, origin, row);
      hull.members[hull.pointCount] = arrivalCount;
      hull.pointCount++;
      arrivalCount++;
    }
  }

  private boolean holdsAtPoints(Hull hull) {
    for (int i = 0; i < hull.pointCount; i++) {
      if (valueOf(draft, arrivals[hull.members[i]].row) != 0) {
        return false;
      }
    }
    return true;
  }

  private void noteEquations(int node) {
    Hull hull = hulls[node];
    int count = hull.equationCount();
    for (int i = 0; i < count; i++) {
      int free = hull.span.freePlace(i);
      for (int k = 0; k <= variables; k++) {
        work[k] = hull.span.vanishing(free, k);
      }
      notes[noteCount].set(node, work);
      noteCount++;
    }
  }

  private boolean keepsNotes(Edge edge) {
    spanNotesBefore(edge);
    for (int i = 0; i < noteCount; i++) {
      Note note = notes[i];
      if (note.node != edge.to) {
        continue;
      }
      if (!followsBefore(edge, note, 0)) {
        return false;
      }
      if (edge.kind == FORGET && !followsBefore(edge, note, 1)) {
        return false;
      }
    }
    return true;
  }

  private void spanNotesBefore(Edge edge) {
    noteSpan.clear();
    for (int i = 0; i < noteCount; i++) {
      if (notes[i].node == edge.from) {
        noteSpan.add(notes[i].form);
      }
    }
    if (edge.kind == ASK_ZERO) {
      noteSpan.add(edge.form);
    }
  }

  private boolean followsBefore(Edge edge, Note note, int x) {
    copy(note.form, work);
    edge.stepBack(work, x);
    return noteSpan.contains(work);
  }

  private static int number(int x) {
    return Math.floorMod(x, MODULUS);
  }

  private static int valueOf(int[] form, int[] row) {
    long sum = 0;
    for (int k = 0; k < form.length; k++) {
      sum += (long) form[k] * row[k];
    }
    return (int) (sum % MODULUS);
  }

  /** The factor is 0 .. 65521: callers subtract by the modulus less a number. */
  private static void addMultiple(int[] row, int factor, int[] other) {
    for (int k = 0; k < row.length; k++) {
      row[k] = (int) ((row[k] + (long) factor * other[k]) % MODULUS);
    }
  }

  private static void copy(int[] from, int[] to) {
    System.arraycopy(from, 0, to, 0, to.length);
  }

  /** For a prime modulus a number's inverse is its power by the modulus less 2. */
  private static int inverse(int x) {
    long power = 1;
    long square = x;
    for (int rest = MODULUS - 2; rest > 0; rest >>= 1) {
      if ((rest & 1) == 1) {
        power = power * square % MODULUS;
      }
      square = square * square % MODULUS;
    }
    return (int) power;
  }

  private static final class Edge {
    int from;
    int to;
    int kind;
    int variable;
    final int[] form;

    Edge(int width) {
      form = new int[width];
    }

    void set(int from, int to, int kind, int variable, int[] form) {
      this.from = from;
      this.to = to;
      this.kind = kind;
      this.variable = variable;
      copy(form, this.form);
    }

    boolean isOpen(int[] row) {
      if (kind == ASK_ZERO) {
        return valueOf(form, row) == 0;
      }
      return kind != ASK_OTHER || valueOf(form, row) != 0;
    }

    /** Changes a row of values as the edge does; questions are passed over. */
    void step(int[] row, int x) {
      if (kind == ASSIGN) {
        row[variable] = valueOf(form, row);
      } else if (kind == FORGET) {
        row[variable] = x;
      }
    }

    /** Changes a form to the one that its value is before the edge; x is 0 or 1. */
    void stepBack(int[] row, int x) {
      if (kind != ASSIGN && kind != FORGET) {
        return;
      }
      int factor = row[variable];
      row[variable] = 0;
      if (kind == ASSIGN) {
        addMultiple(row, factor, form);
      } else {
        row[0] = number(row[0] + factor * x);
      }
    }
  }

  private static final class Point {
    int node;
    int index;
    int origin;
    final int[] row;

    Point(int width) {
      row = new int[width];
    }

    void set(int node, int index, int origin, int[] row) {
      this.node = node;
      this.index = index;
      this.origin = origin;
      copy(row, this.row);
    }
  }

  private static final class Note {
    int node;
    final int[] form;

    Note(int width) {
      form = new int[width];
    }

    void set(int node, int[] form) {
      this.node = node;
      copy(form, this.form);
    }
  }

  /** A node's points, by their numbers among all arrivals, and the span of their rows. */
  private static final class Hull {
    final Span span;
    final int[] members;
    int pointCount;

    Hull(int width) {
      span = new Span(width);
      members = new int[width];
    }

    void clear() {
      span.clear();
      pointCount = 0;
    }

    /** Each point has taken one place of the span; each place left is an equation. */
    int equationCount() {
      return members.length - pointCount;
    }
  }

  /**
   * The sums of multiples of some rows. Each kept row has a place of its own, where it is 1 and the
   * other kept rows are 0: the first place at which it is not 0, in the order 0, V, .., 2, 1. As
   * this is the equations' order from its end, the forms that vanish on the span come out reduced,
   * one for each place that is free.
   */
  private static final class Span {
    final int[][] kept;
    final boolean[] taken;
    final int[] rest;

    Span(int width) {
      kept = new int[width][width];
      taken = new boolean[width];
      rest = new int[width];
    }

    void clear() {
      for (int k = 0; k < taken.length; k++) {
        taken[k] = false;
      }
    }

    boolean contains(int[] row) {
      reduce(row);
      return leadingPlace() < 0;
    }

    /** Takes a row in, and answers whether it was not there yet. */
    boolean add(int[] row) {
      reduce(row);
      int leading = leadingPlace();
      if (leading < 0) {
        return false;
      }
      int[] fresh = kept[leading];
      Arrays.fill(fresh, 0);
      addMultiple(fresh, inverse(rest[leading]), rest);
      for (int k = 0; k < taken.length; k++) {
        if (taken[k]) {
          addMultiple(kept[k], MODULUS - kept[k][leading], fresh);
        }
      }
      taken[leading] = true;
      return true;
    }

    private void reduce(int[] row) {
      copy(row, rest);
      for (int k = 0; k < taken.length; k++) {
        if (taken[k]) {
          addMultiple(rest, MODULUS - rest[k], kept[k]);
        }
      }
    }

    private int leadingPlace() {
      if (rest[0] != 0) {
        return 0;
      }
      for (int k = rest.length - 1; k > 0; k--) {
        if (rest[k] != 0) {
          return k;
        }
      }
      return -1;
    }

    /** Free place number i in the equations' order 1, 2, .. V, 0. */
    int freePlace(int i) {
      int left = i;
      for (int k = 1; k < taken.length; k++) {
        if (!taken[k]) {
          if (left == 0) {
            return k;
          }
          left--;
        }
      }
      return 0;
    }

    /** Coefficient k of the vanishing form that is 1 at this free place and 0 at the others. */
    int vanishing(int free, int k) {
      if (k == free) {
        return 1;
      }
      return taken[k] ? number(-kept[k][free]) : 0;
    }
  }
}
