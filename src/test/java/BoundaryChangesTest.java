import java.util.ArrayList;
import java.util.EnumSet;
import java.util.List;
import java.util.Set;

/**
 * That a refused call changes nothing, and any other only what the document says: an object on
 * which the call was made is compared with a twin on which it was not.
 */
public final class BoundaryChangesTest {
  private static final int MIN = Integer.MIN_VALUE;
  private static final int MAX = Integer.MAX_VALUE;

  private static final Class<? extends RuntimeException> ARGUMENT = IllegalArgumentException.class;
  private static final Class<? extends RuntimeException> STATE = IllegalStateException.class;
  private static final Class<? extends RuntimeException> INDEX = IndexOutOfBoundsException.class;
  private static final Class<? extends RuntimeException> UNSUPPORTED = UnsupportedOperationException.class;

  private static final Set<Probe.Aspect> NOTHING = EnumSet.noneOf(Probe.Aspect.class);
  private static final Set<Probe.Aspect> DRAFT =
      EnumSet.of(Probe.Aspect.DRAFT_BY_EDGE, Probe.Aspect.DRAFT_BY_NOTE, Probe.Aspect.DRAFT_BY_HOLDS);

  private interface Call {
    void on(AffineHulls x);
  }

  private interface State {
    AffineHulls make();
  }

  public static void main(String[] args) {
    Due.each(
        BoundaryChangesTest::refusedWhenNew,
        BoundaryChangesTest::refusedWhenAnalysed,
        BoundaryChangesTest::refusedWhenNotAnalysed,
        BoundaryChangesTest::refusedWhenFull,
        BoundaryChangesTest::refusedWhenFullAndSound,
        BoundaryChangesTest::refusedWithTooManyEquations,
        BoundaryChangesTest::questionsChangeNothing,
        BoundaryChangesTest::otherCallsChangeNoMore,
        BoundaryChangesTest::stepThatCannotBeGone);
    Due.end();
  }

  /** Three nodes and two variables, an edge of each kind, a draft, and a run at node 1. */
  private static AffineHulls withoutNotes() {
    AffineHulls x = new AffineHulls(3, 2);
    Make.assign(x, 0, 1, 1, 3, 2, 1);
    Make.ask(x, 1, 1, 3, -17, 1);
    Make.ask(x, 1, 2, 4, 1, 1, 1);
    x.edge(2, 1, 2, 2);
    Make.skip(x, 1, 0);
    x.begin(1, 5);
    x.begin(2, 4);
    x.go(0, 0);
    return x;
  }

  private static AffineHulls built() {
    AffineHulls x = withoutNotes();
    Make.note(x, 1, 5, 1, 0);
    Make.note(x, 2, 0, 1, 2);
    Due.draft(x, 6, 2, 3);
    return x;
  }

  private static AffineHulls builtAndAnalysed() {
    AffineHulls x = built();
    x.analyse();
    return x;
  }

  /** Node 2 has equations, as its one edge is from node 1, where x = 3; the notes are sound. */
  private static AffineHulls sound() {
    AffineHulls x = new AffineHulls(3, 2);
    Make.assign(x, 0, 1, 1, 3);
    Make.assign(x, 1, 2, 2, 1, 1);
    Make.ask(x, 1, 1, 4, 3);
    x.analyse();
    x.noteAll();
    x.begin(2, 9);
    x.go(0, 0);
    Due.draft(x, 6, 2, 3);
    return x;
  }

  private static AffineHulls full() {
    AffineHulls x = withoutNotes();
    Make.note(x, 1, 5, 1, 0);
    Make.notes(x, 2, 23);
    for (int i = 5; i < 20; i++) {
      Make.assign(x, i % 3, (i + 1) % 3, 2, i, 1, i);
    }
    x.analyse();
    Due.draft(x, 6, 2, 3);
    return x;
  }

  private static AffineHulls fullAndSound() {
    AffineHulls x = new AffineHulls(3, 2);
    for (int i = 0; i < 20; i++) {
      Make.assign(x, 0, 1, 1, 3);
    }
    for (int i = 0; i < 24; i++) {
      Make.note(x, 1, -3 * i, i);
    }
    x.analyse();
    Due.draft(x, 6, 2, 3);
    return x;
  }

  private static AffineHulls tooManyEquations() {
    AffineHulls x = new AffineHulls(6, 4);
    x.edge(0, 0, 2, 4);
    Make.note(x, 5, 1, 1, 1);
    x.analyse();
    Due.draft(x, 6, 2, 3);
    return x;
  }

  private static void alike(String name, List<String> got, List<String> due) {
    Due.is(name + ": how many answers", got.size(), due.size());
    List<String> different = new ArrayList<>();
    for (int i = 0; i < Math.min(got.size(), due.size()); i++) {
      if (!got.get(i).equals(due.get(i))) {
        different.add(got.get(i) + " (due: " + due.get(i) + ")");
      }
    }
    Due.is(name + ": answers that differ after it " + different, different.size(), 0);
  }

  /** What is asked first differs, as to ask for one thing may change another. */
  private static void unchanged(String name, State state, int nodes, int variables,
      Class<? extends RuntimeException> want, Call call) {
    for (Probe.Aspect first : Probe.Aspect.values()) {
      AffineHulls asked = state.make();
      Due.refuses(name, want, () -> call.on(asked));
      alike(name + ", " + first, Probe.all(first, asked, nodes, variables),
          Probe.all(first, state.make(), nodes, variables));
    }
  }

  private static void refused(String when, State state, Class<? extends RuntimeException> want, Call... calls) {
    for (int i = 0; i < calls.length; i++) {
      unchanged(when + ", " + want.getSimpleName() + ", call " + i, state, 3, 2, want, calls[i]);
    }
  }

  private static void wrongArguments(String when, State state) {
    for (int node : new int[] {-1, 3, MAX}) {
      refused(when + ", node " + node, state, ARGUMENT,
          x -> x.edge(node, 0, 0, 0), x -> x.edge(0, node, 0, 0), x -> x.entry(node),
          x -> x.points(node), x -> x.point(node, 0, 0), x -> x.equations(node),
          x -> x.coefficient(node, 0, 0), x -> x.holds(node), x -> x.note(node));
    }
    for (int k : new int[] {-1, 3, MIN}) {
      refused(when + ", variable " + k, state, ARGUMENT,
          x -> x.term(k, 9), x -> x.edge(0, 1, 1, k), x -> x.edge(0, 1, 2, k),
          x -> x.point(0, 0, k), x -> x.coefficient(2, 0, k), x -> x.begin(k, 9), x -> x.at(k));
    }
    refused(when + ", variable 0, no kind, no edge", state, ARGUMENT,
        x -> x.edge(0, 1, 1, 0), x -> x.edge(0, 1, 2, 0), x -> x.begin(0, 9),
        x -> x.edge(0, 1, -1, 1), x -> x.edge(0, 1, 5, 1), x -> x.go(-1, 9), x -> x.go(20, 9));
  }

  private static void whatAsksToBeAnalysed(String when, State state) {
    refused(when, state, STATE, x -> x.points(0), x -> x.point(0, 0, 0), x -> x.equations(0),
        x -> x.coefficient(0, 0, 0), x -> x.holds(0), x -> x.noteAll());
  }

  private static void refusedWhenNew() {
    Due.sentence("a call that throws changes nothing", "on a new object");
    State state = () -> new AffineHulls(3, 2);
    wrongArguments("new", state);
    whatAsksToBeAnalysed("new", state);
    refused("new", state, ARGUMENT, x -> x.go(0, 9));
  }

  private static void refusedWhenAnalysed() {
    Due.sentence("a call that throws changes nothing", "analysed");
    for (State state : List.<State>of(BoundaryChangesTest::builtAndAnalysed, BoundaryChangesTest::sound)) {
      wrongArguments("analysed", state);
      refused("analysed", state, INDEX, x -> x.point(0, 3, 0), x -> x.point(1, -1, 0),
          x -> x.coefficient(0, 3, 0), x -> x.coefficient(1, -1, 0));
      refused("analysed, go from elsewhere", state, ARGUMENT, x -> x.go(0, 9));
    }
    refused("forgetting from elsewhere", BoundaryChangesTest::builtAndAnalysed, ARGUMENT, x -> x.go(3, 9));
  }

  private static void refusedWhenNotAnalysed() {
    Due.sentence("a call that throws changes nothing", "not analysed");
    wrongArguments("not analysed", BoundaryChangesTest::built);
    whatAsksToBeAnalysed("not analysed", BoundaryChangesTest::built);
  }

  private static void refusedWhenFull() {
    Due.sentence("a call that throws changes nothing", "with 20 edges and 24 notes");
    wrongArguments("full", BoundaryChangesTest::full);
    refused("full", BoundaryChangesTest::full, STATE, x -> x.edge(0, 1, 0, 0), x -> x.edge(0, 1, 1, 1),
        x -> x.edge(0, 1, 2, 2), x -> x.note(0), x -> x.note(1));
  }

  private static void refusedWhenFullAndSound() {
    Due.sentence("a call that throws changes nothing", "with 20 edges and 24 notes that are sound");
    Due.is("sound()", fullAndSound().sound(), true);
    refused("full and sound", BoundaryChangesTest::fullAndSound, STATE, x -> x.edge(0, 1, 0, 0),
        x -> x.edge(0, 1, 1, 1), x -> x.note(0), x -> x.note(1), x -> x.note(2));
  }

  private static void refusedWithTooManyEquations() {
    Due.sentence("a call that throws changes nothing", "with more than 24 equations");
    unchanged("noteAll() of 25", BoundaryChangesTest::tooManyEquations, 6, 4, UNSUPPORTED, x -> x.noteAll());
  }

  /** Each aspect but those that the call may change is asked, on an object of its own. */
  private static void changesOnly(String name, Set<Probe.Aspect> may, Call call) {
    for (Probe.Aspect aspect : Probe.Aspect.values()) {
      if (!may.contains(aspect)) {
        AffineHulls x = sound();
        call.on(x);
        alike(name + ", " + aspect, Probe.only(aspect, x, 3, 2), Probe.only(aspect, sound(), 3, 2));
      }
    }
  }

  private static Set<Probe.Aspect> draftAnd(Probe.Aspect... aspects) {
    Set<Probe.Aspect> all = EnumSet.copyOf(DRAFT);
    all.addAll(List.of(aspects));
    return all;
  }

  private static void questionsChangeNothing() {
    Due.sentence("Nothing is promised beyond the answers and state changes described above", "calls that only answer");
    changesOnly("analyse()", NOTHING, AffineHulls::analyse);
    changesOnly("points(2)", NOTHING, x -> x.points(2));
    changesOnly("point(2, 0, 1)", NOTHING, x -> x.point(2, 0, 1));
    changesOnly("equations(2)", NOTHING, x -> x.equations(2));
    changesOnly("coefficient(2, 1, 0)", NOTHING, x -> x.coefficient(2, 1, 0));
    changesOnly("at(1)", NOTHING, x -> x.at(1));
    changesOnly("sound()", NOTHING, AffineHulls::sound);
    changesOnly("noteAll() of the same notes", NOTHING, AffineHulls::noteAll);
  }

  private static void otherCallsChangeNoMore() {
    Due.sentence("Nothing is promised beyond the answers and state changes described above", "calls that change");
    changesOnly("term(0, 1)", DRAFT, x -> x.term(0, 1));
    changesOnly("holds(1)", DRAFT, x -> x.holds(1));
    changesOnly("note(1)", draftAnd(Probe.Aspect.SOUND, Probe.Aspect.NOTE_COUNT), x -> x.note(1));
    changesOnly("forget()", EnumSet.of(Probe.Aspect.NOTE_COUNT, Probe.Aspect.DRAFT_BY_NOTE), AffineHulls::forget);
    changesOnly("begin(1, 8)", EnumSet.of(Probe.Aspect.RUN), x -> x.begin(1, 8));
    changesOnly("go(1, 0)", EnumSet.of(Probe.Aspect.RUN), x -> x.go(1, 0));
    changesOnly("edge(0, 0, 0, 0)", draftAnd(Probe.Aspect.ANALYSIS, Probe.Aspect.EDGES), x -> x.edge(0, 0, 0, 0));
    changesOnly("entry(0), as it was", EnumSet.of(Probe.Aspect.RUN, Probe.Aspect.ANALYSIS, Probe.Aspect.DRAFT_BY_HOLDS),
        x -> x.entry(0));
    changesOnly("entry(2)", EnumSet.of(Probe.Aspect.RUN, Probe.Aspect.ENTRY, Probe.Aspect.ANALYSIS, Probe.Aspect.SOUND,
        Probe.Aspect.DRAFT_BY_NOTE, Probe.Aspect.DRAFT_BY_HOLDS, Probe.Aspect.EDGES), x -> x.entry(2));
  }

  private static void stepThatCannotBeGone() {
    Due.sentence("whether it can.", "it can't: nothing changes");
    State state = () -> {
      AffineHulls x = sound();
      Make.ask(x, 1, 2, 3, 1);
      x.analyse();
      Due.draft(x, 6, 2, 3);
      return x;
    };
    for (Probe.Aspect aspect : Probe.Aspect.values()) {
      AffineHulls x = state.make();
      Due.is("go(3, 9)", x.go(3, 9), false);
      alike("go(3, 9), " + aspect, Probe.only(aspect, x, 3, 2), Probe.only(aspect, state.make(), 3, 2));
    }
  }
}
