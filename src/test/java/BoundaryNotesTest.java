/**
 * A test for each sentence of the document that names a boundary case: notes and when they are
 * sound, in the terms and in the promises 14 to 17. What they refuse is looked at in
 * BoundaryRefusalTest.
 */
public final class BoundaryNotesTest {
  private static final int SKIP = 0;
  private static final int ASK_ZERO = 3;
  private static final int ASK_OTHER = 4;

  public static void main(String[] args) {
    Due.each(
        BoundaryNotesTest::atMostTwentyFour,
        BoundaryNotesTest::eachAtANode,
        BoundaryNotesTest::noneAtTheEntry,
        BoundaryNotesTest::withoutNotes,
        BoundaryNotesTest::eachEdge,
        BoundaryNotesTest::eachNote,
        BoundaryNotesTest::nodeToWhichItGoes,
        BoundaryNotesTest::nodeFromWhichItGoes,
        BoundaryNotesTest::sumOfNone,
        BoundaryNotesTest::sumOfMultiples,
        BoundaryNotesTest::sumOfMany,
        BoundaryNotesTest::multiplesModulo,
        BoundaryNotesTest::questionsForm,
        BoundaryNotesTest::questionsFormOfZero,
        BoundaryNotesTest::questionsFormWithNotes,
        BoundaryNotesTest::noFormOfOtherKinds,
        BoundaryNotesTest::noteItself,
        BoundaryNotesTest::variableReplaced,
        BoundaryNotesTest::variableReplacedByItself,
        BoundaryNotesTest::twoForms,
        BoundaryNotesTest::draftAfterNote,
        BoundaryNotesTest::howManyNotes,
        BoundaryNotesTest::allNotesGo,
        BoundaryNotesTest::nodeByNode,
        BoundaryNotesTest::noteAllOfNone,
        BoundaryNotesTest::noteAllFull,
        BoundaryNotesTest::noteAllIsSound,
        BoundaryNotesTest::forgetCounts,
        BoundaryNotesTest::forgetWithoutNotes,
        BoundaryNotesTest::draftStays,
        BoundaryNotesTest::soundChangesNothing);
    Due.end();
  }

  private static void atMostTwentyFour() {
    Due.sentence("NOTES are at most 24 forms");
    AffineHulls x = new AffineHulls(2, 1);
    for (int i = 1; i <= 24; i++) {
      Due.is("note " + i, Make.note(x, 1, i, 0), i);
    }
    Due.badState("note 25", () -> x.note(1));
    Due.is("forget()", x.forget(), 24);
    Due.is("note 1 again", x.note(1), 1);
  }

  /** The note follows from nothing, so an edge to its node tells where it is. */
  private static void eachAtANode() {
    Due.sentence("forms, each at a node");
    for (int node = 1; node < 8; node++) {
      AffineHulls x = new AffineHulls(8, 4);
      Make.note(x, node, 5, 0, 0, 0, 1);
      Due.is("a note at node " + node, x.sound(), true);
      Make.skip(x, node - 1, node);
      Due.is("an edge to node " + node, x.sound(), false);
    }
  }

  private static void noneAtTheEntry() {
    Due.sentence("They are SOUND if there is none at the entry");
    AffineHulls x = new AffineHulls(3, 1);
    x.entry(2);
    x.note(0);
    x.note(1);
    Due.is("forms of 0 elsewhere", x.sound(), true);
    x.note(2);
    Due.is("a form of 0 at the entry", x.sound(), false);
    x.entry(1);
    Due.is("there is one at node 1 too", x.sound(), false);
    AffineHulls y = new AffineHulls(2, 1);
    Make.notes(y, 1, 23);
    Due.is("23 elsewhere", y.sound(), true);
    y.note(0);
    Due.is("only the last one is at the entry", y.sound(), false);
    y.entry(1);
    y.forget();
    y.note(0);
    Due.is("the entry of old", y.sound(), true);
  }

  private static void withoutNotes() {
    Due.sentence("for each edge and each note", "where there are none");
    AffineHulls x = new AffineHulls(2, 1);
    Due.is("no edge, no note", x.sound(), true);
    Make.assign(x, 0, 1, 1, 5);
    Make.ask(x, 0, 1, ASK_ZERO, 1);
    Due.is("edges, no note", x.sound(), true);
    AffineHulls y = new AffineHulls(2, 1);
    Make.note(y, 1, 1, 0);
    Due.is("1 = 0 where no edge goes", y.sound(), true);
  }

  private static void eachEdge() {
    Due.sentence("and for each edge", "the bad one at each number");
    for (int bad = 0; bad < 20; bad++) {
      AffineHulls x = new AffineHulls(2, 1);
      for (int i = 0; i < 20; i++) {
        Make.assign(x, 0, 1, 1, i == bad ? 6 : 5);
      }
      Make.note(x, 1, -5, 1);
      Due.is("only edge " + bad + " breaks the note", x.sound(), false);
    }
    AffineHulls x = new AffineHulls(2, 1);
    for (int i = 0; i < 20; i++) {
      Make.assign(x, 0, 1, 1, 5);
    }
    Make.note(x, 1, -5, 1);
    Due.is("no edge breaks it", x.sound(), true);
  }

  private static void eachNote() {
    Due.sentence("and each note of the node to which it goes", "the bad one at each number");
    for (int bad = 0; bad < 24; bad++) {
      AffineHulls x = new AffineHulls(2, 1);
      Make.assign(x, 0, 1, 1, 5);
      for (int i = 0; i < 24; i++) {
        Make.note(x, 1, i == bad ? -6 : -5, 1);
      }
      Due.is("only note " + bad + " is broken", x.sound(), false);
    }
    AffineHulls x = new AffineHulls(2, 1);
    Make.assign(x, 0, 1, 1, 5);
    for (int i = 0; i < 24; i++) {
      Make.note(x, 1, -5 * i, i);
    }
    Due.is("none is broken", x.sound(), true);
  }

  private static void nodeToWhichItGoes() {
    Due.sentence("of the node to which it goes");
    AffineHulls x = new AffineHulls(3, 1);
    Make.skip(x, 1, 0);
    Make.skip(x, 1, 0);
    Make.note(x, 1, 1, 1);
    Make.note(x, 2, 7, 0);
    Due.is("notes only where edges come from, or none goes", x.sound(), true);
    Make.skip(x, 1, 1);
    Due.is("to the same node", x.sound(), true);
    Make.skip(x, 1, 2);
    Due.is("to the other note", x.sound(), false);
  }

  private static void nodeFromWhichItGoes() {
    Due.sentence("is a sum of multiples of the notes of the node from which it goes");
    AffineHulls x = new AffineHulls(4, 1);
    Make.skip(x, 1, 2);
    Make.note(x, 2, 3, 1);
    Due.is("none there", x.sound(), false);
    Make.note(x, 3, 3, 1);
    Due.is("one at another node", x.sound(), false);
    Make.note(x, 1, 3, 1);
    Due.is("one there", x.sound(), true);
    Make.skip(x, 3, 2);
    Due.is("one at each node from which an edge goes", x.sound(), true);
    Make.skip(x, 0, 2);
    Due.is("the entry can have none", x.sound(), false);
  }

  private static void sumOfNone() {
    Due.sentence("a sum of multiples of the notes", "no notes: 0 alone");
    AffineHulls x = new AffineHulls(2, 2);
    Make.skip(x, 0, 1);
    Make.note(x, 1, 0, 0, 0);
    Due.is("0", x.sound(), true);
    Make.note(x, 1, 65521, -65521, 131042);
    Due.is("0 by other ints", x.sound(), true);
    for (int k = 0; k <= 2; k++) {
      AffineHulls y = new AffineHulls(2, 2);
      Make.skip(y, 0, 1);
      y.term(k, 1);
      y.note(1);
      Due.is("1 at place " + k, y.sound(), false);
    }
  }

  /** Whether a note follows over an edge that changes nothing, from notes in a row. */
  private static boolean follows(int[] note, int[]... from) {
    AffineHulls x = new AffineHulls(3, 4);
    Make.skip(x, 1, 2);
    for (int[] form : from) {
      Make.note(x, 1, form);
    }
    Make.note(x, 2, note);
    return x.sound();
  }

  private static void sumOfMultiples() {
    Due.sentence("a sum of multiples of the notes", "one note");
    int[] x3 = {3, 1};
    Due.is("by 0", follows(new int[] {0}, x3), true);
    Due.is("by 1", follows(x3, x3), true);
    Due.is("by 2", follows(new int[] {6, 2}, x3), true);
    Due.is("by 65520", follows(new int[] {-3, -1}, x3), true);
    Due.is("another constant", follows(new int[] {4, 1}, x3), false);
    Due.is("its variable alone", follows(new int[] {0, 1}, x3), false);
    Due.is("its constant alone", follows(new int[] {3, 0}, x3), false);
    Due.is("another variable", follows(new int[] {3, 0, 1}, x3), false);
    Due.is("1 = 0 gives constants", follows(new int[] {9}, new int[] {1}), true);
    Due.is("1 = 0 gives no variable", follows(new int[] {0, 1}, new int[] {1}), false);
    Due.is("0 = 0 gives nothing", follows(x3, new int[] {0}), false);
  }

  private static void sumOfMany() {
    Due.sentence("a sum of multiples of the notes", "several notes");
    int[] a = {1, 1, 1};
    int[] b = {2, 0, 1, 1};
    int[] c = {3, 0, 0, 1, 1};
    Due.is("a - b + c", follows(new int[] {2, 1, 0, 0, 1}, a, b, c), true);
    Due.is("a - b + c, in another order", follows(new int[] {2, 1, 0, 0, 1}, c, a, b), true);
    Due.is("a - b + c without c", follows(new int[] {2, 1, 0, 0, 1}, a, b), false);
    Due.is("a - b + c and 1", follows(new int[] {3, 1, 0, 0, 1}, a, b, c), false);
    Due.is("with notes that say the same", follows(new int[] {2, 1, 0, 0, 1}, a, a, b, b, new int[] {3, 1, 2, 1}, c), true);
    int[][] many = new int[22][];
    for (int i = 0; i < 22; i++) {
      many[i] = new int[] {i, i};
    }
    many[21] = new int[] {0, 0, 1};
    Due.is("the last of many is one too", follows(new int[] {5, 5, 7}, many), true);
    int[][] all = {{1}, {1, 1}, {1, 1, 1}, {1, 1, 1, 1}, {1, 1, 1, 1, 1}};
    Due.is("V + 1 that say all", follows(new int[] {65520, 4, 3, 2, 1}, all), true);
  }

  private static void multiplesModulo() {
    Due.sentence("sums and products are taken modulo 65521 (a prime)", "multiples of notes");
    Due.is("x + 2 by 65520 is 65519", follows(new int[] {65519, 65520}, new int[] {2, 1}), true);
    Due.is("256x by 256 is 15x", follows(new int[] {0, 15}, new int[] {0, 256}), true);
    Due.is("2x + 1 by a half", follows(new int[] {32761, 1}, new int[] {1, 2}), true);
    Due.is("2x + 1, but not by a half", follows(new int[] {32760, 1}, new int[] {1, 2}), false);
    Due.is("a sum that is 0", follows(new int[] {0, 0, 1}, new int[] {65520, 65520, 1}, new int[] {1, 1}), true);
  }

  /** Whether a note at node 2 follows over a question from node 1, which may have a note. */
  private static boolean followsBy(int kind, int[] question, int[] note, int[]... from) {
    AffineHulls x = new AffineHulls(3, 2);
    Make.ask(x, 1, 2, kind, question);
    for (int[] form : from) {
      Make.note(x, 1, form);
    }
    Make.note(x, 2, note);
    return x.sound();
  }

  private static void questionsForm() {
    Due.sentence("(and, for kind 3, of the edge's form)");
    int[] question = {5, 1};
    Due.is("the form", followsBy(ASK_ZERO, question, question), true);
    Due.is("7 times it", followsBy(ASK_ZERO, question, new int[] {35, 7}), true);
    Due.is("65520 times it", followsBy(ASK_ZERO, question, new int[] {-5, -1}), true);
    Due.is("another constant", followsBy(ASK_ZERO, question, new int[] {6, 1}), false);
    Due.is("1 = 0, never gone", followsBy(ASK_ZERO, new int[] {1}, new int[] {3}), true);
    Due.is("1 = 0 gives no variable", followsBy(ASK_ZERO, new int[] {1}, new int[] {0, 1}), false);
  }

  private static void questionsFormOfZero() {
    Due.sentence("(and, for kind 3, of the edge's form)", "a form of 0");
    Due.is("0", followsBy(ASK_ZERO, new int[] {0}, new int[] {0}), true);
    Due.is("1", followsBy(ASK_ZERO, new int[] {0}, new int[] {1}), false);
    Due.is("x", followsBy(ASK_ZERO, new int[] {0}, new int[] {0, 1}), false);
  }

  private static void questionsFormWithNotes() {
    Due.sentence("a sum of multiples of the notes ... (and, for kind 3, of the edge's form)");
    int[] question = {5, 1};
    int[] note = {7, 0, 1};
    Due.is("2 of one and 3 of the other", followsBy(ASK_ZERO, question, new int[] {31, 2, 3}, note), true);
    Due.is("and 1", followsBy(ASK_ZERO, question, new int[] {32, 2, 3}, note), false);
    Due.is("x = -5 and x = -6: all follows for constants", followsBy(ASK_ZERO, question, new int[] {9}, new int[] {6, 1}), true);
    AffineHulls x = new AffineHulls(4, 2);
    Make.ask(x, 1, 2, ASK_ZERO, question);
    Make.skip(x, 1, 3);
    Make.note(x, 3, question);
    Due.is("the form counts for its own edge alone", x.sound(), false);
  }

  private static void noFormOfOtherKinds() {
    Due.sentence("for kind 3, of the edge's form", "and no other kind");
    int[] question = {5, 1};
    Due.is("kind 0", followsBy(SKIP, question, question), false);
    Due.is("kind 4", followsBy(ASK_OTHER, question, question), false);
    AffineHulls assigned = new AffineHulls(2, 2);
    Make.assign(assigned, 0, 1, 2, 5, 1);
    Make.note(assigned, 1, 5, 1, 0);
    Due.is("kind 1", assigned.sound(), false);
    AffineHulls forgotten = new AffineHulls(2, 2);
    Due.draft(forgotten, 5, 1, 0);
    forgotten.edge(0, 1, 2, 2);
    Make.note(forgotten, 1, 5, 1, 0);
    Due.is("kind 2", forgotten.sound(), false);
  }

  private static void noteItself() {
    Due.sentence("That form is the note itself for the kinds 0, 3 and 4");
    for (int kind : new int[] {SKIP, ASK_ZERO, ASK_OTHER}) {
      int[] note = {65520, 65520, 1};
      Due.is("kind " + kind, followsBy(kind, new int[] {3, 0, 9}, note, note), true);
      Due.is("kind " + kind + ", another", followsBy(kind, new int[] {3, 0, 9}, new int[] {65519, 65520, 1}, note), false);
    }
  }

  private static void variableReplaced() {
    Due.sentence("for kind 1, the variable in it is replaced by the edge's form");
    AffineHulls x = new AffineHulls(3, 4);
    Make.assign(x, 1, 2, 4, 7, 0, 0, 65520, 0);
    Make.note(x, 2, 0, 0, 0, 2, 3);
    Make.note(x, 1, 21, 0, 0, -1, 0);
    Due.is("2z + 3w with w := 7 - z is 21 - z", x.sound(), true);
    Make.note(x, 2, 0, 0, 0, 2, 4);
    Due.is("2z + 4w is 28 - 2z", x.sound(), false);
    AffineHulls y = new AffineHulls(2, 2);
    Make.assign(y, 0, 1, 1, 65520, 0, 65520);
    Make.note(y, 1, 65520, 65520, 65520);
    Due.is("-x - y - 1 with x := -y - 1 is 0", y.sound(), true);
    Make.note(y, 1, 0, 0, 1);
    Due.is("a note without the variable stays", y.sound(), false);
  }

  private static void variableReplacedByItself() {
    Due.sentence("the variable in it is replaced by the edge's form", "which has it too");
    AffineHulls x = new AffineHulls(3, 1);
    Make.assign(x, 1, 2, 1, 1, 1);
    Make.note(x, 1, 0, 1);
    Make.note(x, 2, -1, 1);
    Due.is("x = 0, x := x + 1, x = 1", x.sound(), true);
    Make.note(x, 2, 0, 1);
    Due.is("and x = 0", x.sound(), false);
    AffineHulls y = new AffineHulls(2, 1);
    Make.assign(y, 1, 1, 1, 0, 2);
    Make.note(y, 1, 0, 1);
    Due.is("x = 0, x := 2x, at the same node", y.sound(), true);
    Make.note(y, 1, 1, 1);
    Due.is("x = 0 and x = -1: all follows", y.sound(), true);
    AffineHulls z = new AffineHulls(2, 1);
    Make.assign(z, 1, 1, 1, 0, 2);
    Make.note(z, 1, 1, 1);
    Due.is("x = -1, x := 2x", z.sound(), false);
  }

  private static boolean followsForgotten(int[] note, int[]... from) {
    AffineHulls x = new AffineHulls(3, 2);
    x.edge(1, 2, 2, 1);
    for (int[] form : from) {
      Make.note(x, 1, form);
    }
    Make.note(x, 2, note);
    return x.sound();
  }

  private static void twoForms() {
    Due.sentence("for kind 2 there are two such forms: the variable is replaced by 0, and by 1");
    Due.is("x: by 1 it is 1", followsForgotten(new int[] {0, 1, 0}), false);
    Due.is("x - 1: by 0 it is -1", followsForgotten(new int[] {65520, 1, 0}), false);
    Due.is("x + y from y: by 0 it follows, by 1 it does not", followsForgotten(new int[] {0, 1, 1}, new int[] {0, 0, 1}), false);
    Due.is("x + y from y + 1: by 1 it follows, by 0 it does not", followsForgotten(new int[] {0, 1, 1}, new int[] {1, 0, 1}), false);
    Due.is("x + y from y and y + 1", followsForgotten(new int[] {0, 1, 1}, new int[] {0, 0, 1}, new int[] {1, 0, 1}), true);
    Due.is("65520x from 1", followsForgotten(new int[] {0, 65520, 0}, new int[] {1, 0, 0}), true);
    Due.is("x from x: what it was is lost", followsForgotten(new int[] {0, 1, 0}, new int[] {0, 1, 0}), false);
    Due.is("y + 3 from y + 3, without the variable", followsForgotten(new int[] {3, 0, 1}, new int[] {3, 0, 1}), true);
    Due.is("0", followsForgotten(new int[] {0, 0, 0}), true);
  }

  private static void draftAfterNote() {
    Due.sentence("The draft is a note at a node, and all 0 then");
    AffineHulls x = new AffineHulls(2, 2);
    Make.note(x, 1, 7, 1, 1);
    x.begin(1, 100);
    x.begin(2, 1000);
    Due.is("the draft", Make.draftValue(x), 0);
    AffineHulls y = new AffineHulls(2, 2);
    Make.notes(y, 1, 23);
    Make.note(y, 1, 7, 1, 1);
    y.begin(1, 100);
    Due.is("the draft after note 24", Make.draftValue(y), 0);
  }

  private static void howManyNotes() {
    Due.sentence("The draft is a note at a node ... how many notes there are.");
    AffineHulls x = new AffineHulls(2, 1);
    x.analyse();
    Due.is("the first", x.note(0), 1);
    Due.badArgument("note(2)", () -> x.note(2));
    Due.is("the same form at the same node counts", x.note(0), 2);
    Due.is("noteAll()", x.noteAll(), 2);
    Due.is("one more", x.note(1), 3);
    x.forget();
    Due.is("from the first again", x.note(1), 1);
  }

  private static void allNotesGo() {
    Due.sentence("All notes go; the equations of all nodes become notes");
    AffineHulls x = new AffineHulls(2, 1);
    Make.note(x, 0, 1, 1);
    Make.notes(x, 1, 23);
    x.analyse();
    Due.is("noteAll() with 24 notes there", x.noteAll(), 2);
    Due.is("the note at the entry is gone", x.sound(), true);
    Due.is("noteAll() again", x.noteAll(), 2);
    Due.is("forget()", x.forget(), 2);
    x.noteAll();
    Make.skip(x, 0, 1);
    x.analyse();
    Due.is("sound() with notes of old", x.sound(), false);
    Due.is("noteAll() without an equation", x.noteAll(), 0);
    Due.is("the notes of old are gone", x.sound(), true);
    Due.is("forget()", x.forget(), 0);
  }

  /** Each node has its own equation x = node: an edge from it keeps that note, and no other. */
  private static void nodeByNode() {
    Due.sentence("the equations of all nodes become notes, node by node, row by row");
    for (int node = 1; node < 8; node++) {
      AffineHulls x = new AffineHulls(8, 1);
      for (int i = 1; i < 8; i++) {
        Make.assign(x, 0, i, 1, i);
      }
      x.analyse();
      Due.is("noteAll()", x.noteAll(), 7);
      Due.is("sound()", x.sound(), true);
      Make.assign(x, node, node, 1, node);
      Due.is("x := " + node + " at node " + node, x.sound(), true);
      Make.assign(x, node, node, 1, node + 1);
      Due.is("x := " + (node + 1) + " at node " + node, x.sound(), false);
    }
    AffineHulls y = new AffineHulls(2, 4);
    y.analyse();
    Due.is("each row of a node without points", y.noteAll(), 5);
    Make.assign(y, 1, 1, 4, 65520, 9, 8, 7, 6);
    Due.is("of these all follows", y.sound(), true);
  }

  private static void noteAllOfNone() {
    Due.sentence("All notes go; ... how many there are.", "no equation");
    AffineHulls x = new AffineHulls(1, 1);
    x.analyse();
    Due.is("noteAll()", x.noteAll(), 0);
    Due.is("sound()", x.sound(), true);
    Due.is("forget()", x.forget(), 0);
  }

  /** Nodes 0 .. 4 have as many equations as their number, nodes 6 and 7 have 5, node 5 those of another. */
  private static AffineHulls equations20And(int other) {
    AffineHulls x = new AffineHulls(8, 4);
    for (int node = 1; node <= 4; node++) {
      Make.assign(x, node - 1, node, node, 0);
    }
    Make.skip(x, other, 5);
    x.analyse();
    return x;
  }

  private static void noteAllFull() {
    Due.sentence("UnsupportedOperationException when there would be more than 24.");
    Due.is("24: 1 + 2 + 3 + 4 + 4 + 5 + 5", equations20And(4).noteAll(), 24);
    Due.is("23", equations20And(3).noteAll(), 23);
    Due.unsupported("25", () -> equations20And(6).noteAll());
    AffineHulls x = equations20And(4);
    Make.notes(x, 1, 24);
    Due.is("24 in the place of 24", x.noteAll(), 24);
    Due.badState("note 25", () -> x.note(1));
    Due.is("forget()", x.forget(), 24);
    AffineHulls most = new AffineHulls(8, 4);
    most.note(1);
    most.analyse();
    Due.unsupported("35", most::noteAll);
    Due.is("the notes stay", most.forget(), 1);
  }

  private static void noteAllIsSound() {
    Due.sentence("notes by which anyone can see that an equation holds");
    AffineHulls x = equations20And(4);
    x.noteAll();
    Due.is("24 notes, sound()", x.sound(), true);
    Make.assign(x, 4, 5, 4, 1);
    Due.is("an edge more that breaks one", x.sound(), false);
    Due.badState("noteAll() before analyse()", x::noteAll);
    x.analyse();
    Due.is("noteAll()", x.noteAll(), 23);
    Due.is("sound()", x.sound(), true);
  }

  private static void forgetCounts() {
    Due.sentence("All notes go: how many there were.");
    for (int count : new int[] {1, 2, 23, 24}) {
      AffineHulls x = new AffineHulls(2, 1);
      Make.notes(x, 0, count);
      Due.is("sound()", x.sound(), false);
      Due.is("forget()", x.forget(), count);
      Due.is("sound() without them", x.sound(), true);
      Due.is("forget() again", x.forget(), 0);
    }
  }

  private static void draftStays() {
    Due.sentence("All notes go", "and nothing else");
    AffineHulls x = new AffineHulls(2, 1);
    x.analyse();
    Due.draft(x, 7, 1);
    x.begin(1, 100);
    x.note(1);
    Due.draft(x, 7, 1);
    x.forget();
    x.noteAll();
    Due.is("still analysed", x.points(0), 2);
    Due.is("the run stays", x.at(1), 100);
    Due.is("the draft stays", Make.draftValue(x), 107);
  }

  private static void forgetWithoutNotes() {
    Due.sentence("All notes go: how many there were.", "there were none");
    AffineHulls x = new AffineHulls(8, 4);
    Due.is("forget()", x.forget(), 0);
    Due.badArgument("note(8)", () -> x.note(8));
    Due.is("forget() after a refused note", x.forget(), 0);
  }

  private static void soundChangesNothing() {
    Due.sentence("Whether the notes are sound.");
    AffineHulls x = new AffineHulls(3, 2);
    Make.assign(x, 0, 1, 1, 3, 0, 1);
    x.analyse();
    x.noteAll();
    Due.draft(x, 4, 1, 1);
    x.begin(2, 10);
    Due.is("sound()", x.sound(), true);
    Due.is("sound() again", x.sound(), true);
    Due.is("still analysed", x.equations(1), 1);
    Due.is("the run stays", x.at(2), 10);
    Due.is("the draft stays", Make.draftValue(x), 14);
    Due.is("the notes stay", x.forget(), 4);
  }
}
