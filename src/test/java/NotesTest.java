/** Promises 14 to 17: note, noteAll, forget, sound. */
public final class NotesTest {
  public static void main(String[] args) {
    note();
    notesAreLimited();
    noteAll();
    noteAllRefused();
    forget();
    soundWithoutEdges();
    soundOverAssignment();
    soundOverForgetting();
    soundOverQuestions();
    soundTakesAllEdges();
    soundOverLoops();
    soundLooksAtTheProgramNow();
    Due.end();
  }

  private static AffineHulls noted(AffineHulls x, int node, int... form) {
    Due.draft(x, form);
    x.note(node);
    return x;
  }

  private static void note() {
    AffineHulls x = new AffineHulls(2, 1);
    x.analyse();
    Due.draft(x, 1, 1);
    Due.badArgument("note(2)", () -> x.note(2));
    Due.badArgument("note(-1)", () -> x.note(-1));
    Due.is("refused: the draft was kept", x.holds(0), false);
    Due.draft(x, 1, 1);
    Due.is("note(1)", x.note(1), 1);
    Due.is("the draft is all 0 then", x.holds(0), true);
    Due.is("the same again", x.note(1), 2);
    Due.is("note(0)", x.note(0), 3);
    Due.is("notes change no program", x.points(0), 2);
  }

  private static void notesAreLimited() {
    AffineHulls x = new AffineHulls(2, 1);
    x.analyse();
    for (int i = 1; i <= 24; i++) {
      Due.is("note " + i, x.note(1), i);
    }
    x.term(1, 1);
    Due.badState("note 25", () -> x.note(1));
    Due.badArgument("note 25 nowhere", () -> x.note(2));
    Due.is("the draft was kept", x.holds(0), false);
    Due.is("24 of them", x.forget(), 24);
    Due.is("room again", x.note(1), 1);
    Due.is("noteAll() takes the others' place", x.noteAll(), 2);
  }

  private static void noteAll() {
    AffineHulls x = new AffineHulls(3, 2);
    Due.draft(x, 4, 0, 0);
    x.edge(0, 1, 1, 1);
    x.analyse();
    x.note(0);
    x.term(1, 1);
    Due.is("noteAll()", x.noteAll(), 4);
    Due.is("it leaves the draft", x.holds(0), false);
    Due.is("sound()", x.sound(), true);
    Due.is("again", x.noteAll(), 4);
    Due.is("one more", x.note(1), 5);
    Due.is("forget()", x.forget(), 5);
    Due.is("none", x.noteAll() - x.forget(), 0);
  }

  private static void noteAllRefused() {
    AffineHulls x = new AffineHulls(8, 4);
    x.note(1);
    Due.badState("noteAll() before analyse()", x::noteAll);
    x.analyse();
    Due.refuses("noteAll() of 35", UnsupportedOperationException.class, x::noteAll);
    x.edge(0, 1, 0, 0);
    x.edge(0, 2, 0, 0);
    Due.badState("noteAll() after edge()", x::noteAll);
    x.analyse();
    Due.refuses("noteAll() of 25", UnsupportedOperationException.class, x::noteAll);
    Due.is("the notes stay", x.forget(), 1);
    x.edge(0, 3, 1, 1);
    x.analyse();
    Due.is("noteAll() of 21", x.noteAll(), 21);
    AffineHulls y = new AffineHulls(8, 4);
    y.edge(0, 1, 1, 1);
    for (int i = 2; i <= 4; i++) {
      y.edge(i - 1, i, 1, i);
    }
    y.edge(4, 5, 0, 0);
    y.analyse();
    Due.is("noteAll() of 1 + 2 + 3 + 4 + 4 + 10", y.noteAll(), 24);
    Due.badState("note 25", () -> y.note(1));
    Due.is("sound()", y.sound(), true);
  }

  private static void forget() {
    AffineHulls x = new AffineHulls(2, 1);
    noted(noted(x, 1, 0, 1), 0, 1, 1);
    x.term(1, 1);
    Due.is("forget()", x.forget(), 2);
    Due.is("forget() again", x.forget(), 0);
    x.analyse();
    Due.is("it leaves the draft", x.holds(0), false);
    Due.is("sound() without notes", x.sound(), true);
  }

  private static void soundWithoutEdges() {
    Due.is("anything where nothing comes", noted(new AffineHulls(2, 1), 1, 1, 0).sound(), true);
    Due.is("none at the entry", noted(new AffineHulls(2, 1), 0, 0, 1).sound(), false);
    Due.is("not even 0", noted(new AffineHulls(2, 1), 0, 0, 0).sound(), false);
    AffineHulls x = noted(new AffineHulls(2, 1), 1, 0, 1);
    x.entry(1);
    Due.is("the entry as it is now", x.sound(), false);
    x.entry(0);
    Due.is("and again", x.sound(), true);
  }

  private static void soundOverAssignment() {
    AffineHulls x = new AffineHulls(2, 2);
    Due.draft(x, 3, 0, 1);
    x.edge(0, 1, 1, 1);
    noted(x, 1, 65518, 1, 65520);
    Due.is("x = y + 3 after x := y + 3", x.sound(), true);
    noted(x, 1, -6, 2, -2);
    Due.is("and twice it", x.sound(), true);
    noted(x, 1, 65517, 1, 65520);
    Due.is("x = y + 4", x.sound(), false);
    x.forget();
    noted(x, 1, 0, 0, 1);
    Due.is("y = 0", x.sound(), false);
    x.forget();
    noted(x, 1, 0, 0, 0);
    Due.is("0 = 0", x.sound(), true);
    x.forget();
    noted(x, 1, 1, 0, 0);
    Due.is("1 = 0", x.sound(), false);
  }

  private static void soundOverForgetting() {
    AffineHulls x = new AffineHulls(3, 2);
    x.edge(1, 2, 2, 1);
    noted(x, 1, 0, 0, 1);
    noted(x, 2, 0, 0, 1);
    Due.is("y = 0, x forgotten", x.sound(), true);
    noted(x, 2, 0, 1, 0);
    Due.is("x = 0, x forgotten: with 1 it is 1", x.sound(), false);
    x.forget();
    noted(x, 1, 1, 0, 1);
    noted(x, 2, 0, 1, 1);
    Due.is("y = -1 before, x + y = 0: with 0 it is y", x.sound(), false);
    noted(x, 1, 0, 0, 1);
    Due.is("y = -1 and y = 0 before: all follows", x.sound(), true);
  }

  private static void soundOverQuestions() {
    for (int kind : new int[] {0, 3, 4}) {
      AffineHulls x = new AffineHulls(3, 2);
      Due.draft(x, 0, 2, 0);
      x.edge(1, 2, kind, 0);
      noted(x, 1, 4, 0, 1);
      noted(x, 2, 4, 0, 1);
      Due.is("the same note, kind " + kind, x.sound(), true);
      noted(x, 2, 4, 7, 1);
      Due.is("with the answer's form, kind " + kind, x.sound(), kind == 3);
      noted(x, 2, 5, 7, 1);
      Due.is("neither, kind " + kind, x.sound(), false);
    }
  }

  private static void soundTakesAllEdges() {
    AffineHulls x = new AffineHulls(3, 1);
    x.edge(0, 2, 1, 1);
    noted(x, 2, 0, 1);
    Due.is("x = 0", x.sound(), true);
    x.edge(1, 2, 0, 0);
    Due.is("from node 1 nothing is known", x.sound(), false);
    noted(x, 1, 0, 5);
    Due.is("5x = 0 at node 1", x.sound(), true);
    x.edge(2, 1, 0, 0);
    Due.is("in a circle", x.sound(), true);
    Due.draft(x, 1, 1);
    x.edge(2, 1, 1, 1);
    Due.is("x grows", x.sound(), false);
  }

  private static void soundOverLoops() {
    AffineHulls x = new AffineHulls(2, 2);
    x.edge(0, 1, 2, 2);
    Due.draft(x, 1, 1, 0);
    x.edge(1, 1, 1, 1);
    noted(x, 1, 0, 0, 0);
    Due.is("0 alone", x.sound(), true);
    noted(x, 1, 0, 1, 0);
    Due.is("x = 0", x.sound(), false);
    noted(x, 1, 1, 0, 0);
    Due.is("1 = 0 at a node that is reached", x.sound(), false);
  }

  private static void soundLooksAtTheProgramNow() {
    AffineHulls x = new AffineHulls(2, 1);
    Due.draft(x, 2, 0);
    x.edge(0, 1, 1, 1);
    x.analyse();
    x.noteAll();
    Due.is("sound()", x.sound(), true);
    x.edge(0, 1, 0, 0);
    Due.is("with another edge, not analysed", x.sound(), false);
    x.analyse();
    Due.is("analysed, but the notes are the old ones", x.sound(), false);
    Due.is("noteAll()", x.noteAll(), 0);
    Due.is("sound()", x.sound(), true);
  }
}
