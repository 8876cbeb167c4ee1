import java.util.ArrayList;
import java.util.List;

/**
 * Asks an object all that it can tell, aspect by aspect: two objects in the same state answer alike.
 * Some aspects can't be told without changing the object, or without calls that may be refused, so
 * what is asked first is for the caller to choose.
 */
final class Probe {
  enum Aspect { RUN, ENTRY, ANALYSIS, SOUND, NOTE_COUNT, DRAFT_BY_EDGE, DRAFT_BY_NOTE, DRAFT_BY_HOLDS, EDGES }

  private final AffineHulls x;
  private final int nodes;
  private final int variables;
  private final List<String> answers = new ArrayList<>();

  private interface Call {
    Object answer();
  }

  private Probe(AffineHulls x, int nodes, int variables) {
    this.x = x;
    this.nodes = nodes;
    this.variables = variables;
  }

  static List<String> only(Aspect aspect, AffineHulls x, int nodes, int variables) {
    Probe probe = new Probe(x, nodes, variables);
    probe.ask(aspect);
    return probe.answers;
  }

  static List<String> all(Aspect first, AffineHulls x, int nodes, int variables) {
    Probe probe = new Probe(x, nodes, variables);
    probe.ask(first);
    for (Aspect aspect : Aspect.values()) {
      if (aspect != first) {
        probe.ask(aspect);
      }
    }
    return probe.answers;
  }

  private void ask(Aspect aspect) {
    switch (aspect) {
      case RUN: askTheRun(); break;
      case ENTRY: ask("entry by begin(1, 5)", () -> { x.begin(1, 5); return x.at(0); }); break;
      case ANALYSIS: askTheAnalysis(); break;
      case SOUND: ask("sound()", x::sound); break;
      case NOTE_COUNT: ask("forget()", x::forget); break;
      case DRAFT_BY_EDGE: askTheDraftByAnEdge(); break;
      case DRAFT_BY_NOTE: askTheDraftByANote(); break;
      case DRAFT_BY_HOLDS: ask("holds(0)", () -> x.holds(0)); break;
      default: askTheEdges();
    }
  }

  private void ask(String name, Call call) {
    String answer;
    try {
      answer = String.valueOf(call.answer());
    } catch (RuntimeException e) {
      answer = e.getClass().getSimpleName();
    }
    answers.add(name + " " + answer);
  }

  private void askTheRun() {
    for (int k = 0; k <= variables; k++) {
      int place = k;
      ask("at(" + k + ")", () -> x.at(place));
    }
  }

  private void askTheAnalysis() {
    for (int n = 0; n < nodes; n++) {
      int node = n;
      ask("points(" + node + ")", () -> x.points(node));
      ask("equations(" + node + ")", () -> x.equations(node));
      askRows(node);
    }
  }

  /** A node has V + 1 points and equations together. */
  private void askRows(int node) {
    int points = pointsOrNone(node);
    for (int i = 0; i <= variables; i++) {
      for (int k = 0; k <= variables; k++) {
        int row = i;
        int place = k;
        ask("row " + i + " of node " + node + ", " + k, () -> row < points
            ? x.point(node, row, place) : x.coefficient(node, row - points, place));
      }
    }
  }

  private int pointsOrNone(int node) {
    try {
      return x.points(node);
    } catch (IllegalStateException e) {
      return 0;
    }
  }

  /** A new edge puts the draft's value into variable 1. */
  private void askTheDraftByAnEdge() {
    x.begin(1, 100);
    x.begin(variables, 1000);
    int place = x.at(0);
    ask("edge(..), go(..), at(1)", () -> {
      x.go(x.edge(place, place, 1, 1), 0);
      return x.at(1);
    });
  }

  /** A new node 1 note, which an edge from the entry does not keep unless it is 0. */
  private void askTheDraftByANote() {
    ask("note(1)", () -> x.note(1));
    ask("sound() with it", x::sound);
  }

  /** Two rounds over the edges from the entry, wherever they can be gone; then what they bring. */
  private void askTheEdges() {
    x.begin(1, 5);
    x.begin(variables, 4);
    for (int i = 0; i < 40; i++) {
      int edge = i % 20;
      ask("go(" + edge + ", 7)", () -> x.go(edge, 7));
    }
    askTheRun();
    ask("analyse()", x::analyse);
    askTheAnalysis();
  }
}
