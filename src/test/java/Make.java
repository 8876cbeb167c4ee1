/** Short ways to make programs and notes; a form's constant comes first, then the coefficients. */
final class Make {
  private Make() {}

  static int assign(AffineHulls x, int from, int to, int v, int... form) {
    Due.draft(x, form);
    return x.edge(from, to, 1, v);
  }

  static int ask(AffineHulls x, int from, int to, int kind, int... form) {
    Due.draft(x, form);
    return x.edge(from, to, kind, 0);
  }

  static int skip(AffineHulls x, int from, int to) {
    return x.edge(from, to, 0, 0);
  }

  static int note(AffineHulls x, int node, int... form) {
    Due.draft(x, form);
    return x.note(node);
  }

  static void skips(AffineHulls x, int from, int to, int count) {
    for (int i = 0; i < count; i++) {
      skip(x, from, to);
    }
  }

  static void notes(AffineHulls x, int node, int count) {
    for (int i = 0; i < count; i++) {
      x.note(node);
    }
  }

  /** The draft's value where the run is: no call tells it, so a new edge puts it into variable 1. */
  static int draftValue(AffineHulls x) {
    int place = x.at(0);
    x.go(x.edge(place, place, 1, 1), 0);
    return x.at(1);
  }

  static boolean holds(AffineHulls x, int node, int... form) {
    Due.draft(x, form);
    return x.holds(node);
  }
}
