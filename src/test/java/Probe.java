import java.util.ArrayList;
import java.util.List;

/**
 * Asks an object all that it can tell, its draft, edges and notes at the end (for these it must be
 * changed): two objects in the same state answer alike.
 */
final class Probe {
  private final AffineHulls x;
  private final int nodes;
  private final int variables;
  private final List<String> answers = new ArrayList<>();

  private interface Call {
    Object answer();
  }

  private Probe(AffineHulls x, int nodes, int variables) {
    this.x = x;
    this.nodes = nodes;
    this.variables = variables;
  }

  static List<String> answers(AffineHulls x, int nodes, int variables) {
    Probe probe = new Probe(x, nodes, variables);
    probe.askTheRun();
    probe.askTheAnalysis();
    probe.ask("sound()", x::sound);
    probe.askTheDraft();
    probe.askTheEdges();
    probe.ask("analyse()", x::analyse);
    probe.askTheAnalysis();
    probe.ask("begin(1, 9)", () -> { x.begin(1, 9); return x.at(0); });
    probe.ask("forget()", x::forget);
    return probe.answers;
  }

  private void ask(String name, Call call) {
    String answer;
    try {
      answer = String.valueOf(call.answer());
    } catch (RuntimeException e) {
      answer = e.getClass().getSimpleName();
    }
    answers.add(name + " " + answer);
  }

  private void askTheRun() {
    for (int k = 0; k <= variables; k++) {
      int place = k;
      ask("at(" + k + ")", () -> x.at(place));
    }
  }

  private void askTheAnalysis() {
    for (int n = 0; n < nodes; n++) {
      int node = n;
      ask("points(" + node + ")", () -> x.points(node));
      ask("equations(" + node + ")", () -> x.equations(node));
      askRows(node);
    }
  }

  /** A node has V + 1 points and equations together. */
  private void askRows(int node) {
    int points = pointsOrNone(node);
    for (int i = 0; i <= variables; i++) {
      for (int k = 0; k <= variables; k++) {
        int row = i;
        int place = k;
        ask("row " + i + " of node " + node + ", " + k, () -> row < points
            ? x.point(node, row, place) : x.coefficient(node, row - points, place));
      }
    }
  }

  private int pointsOrNone(int node) {
    try {
      return x.points(node);
    } catch (IllegalStateException e) {
      return 0;
    }
  }

  /** With all edges in use the draft can't be put into a variable: then it is a note, or a form. */
  private void askTheDraft() {
    int place = x.at(0);
    ask("edge(..)", () -> x.edge(place, place, 1, 1));
    ask("note(1)", () -> x.note(1));
    ask("sound() with it", x::sound);
    ask("holds(0)", () -> x.holds(0));
  }

  /** Two rounds over the edges: the run goes where it can, the draft's edge with it. */
  private void askTheEdges() {
    for (int i = 0; i < 40; i++) {
      int edge = i % 20;
      ask("go(" + edge + ", 7)", () -> x.go(edge, 7));
    }
    askTheRun();
  }
}
