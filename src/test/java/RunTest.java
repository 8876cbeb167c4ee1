/** Promises 11 to 13: begin, go, at. */
public final class RunTest {
  public static void main(String[] args) {
    begin();
    assign();
    forgetOne();
    questions();
    refused();
    apartFromAnalysis();
    Due.end();
  }

  private static void begin() {
    AffineHulls x = new AffineHulls(2, 3);
    x.edge(0, 1, 0, 0);
    x.begin(1, -1);
    x.begin(3, 65521 + 4);
    Due.is("at(1)", x.at(1), 65520);
    Due.is("at(2)", x.at(2), 0);
    Due.is("at(3)", x.at(3), 4);
    Due.is("go(0, 0)", x.go(0, 0), true);
    Due.badArgument("begin(0, 1)", () -> x.begin(0, 1));
    Due.badArgument("begin(4, 1)", () -> x.begin(4, 1));
    Due.badArgument("begin(-1, 1)", () -> x.begin(-1, 1));
    Due.is("refused: the run stays", x.at(0), 1);
    x.begin(2, Integer.MIN_VALUE);
    Due.is("at the entry again", x.at(0), 0);
    Due.is("modulo 65521", x.at(2), Math.floorMod(Integer.MIN_VALUE, 65521));
    Due.is("others stay", x.at(1), 65520);
  }

  private static void assign() {
    AffineHulls x = new AffineHulls(2, 2);
    Due.draft(x, 65520, 65520, 65520);
    x.edge(0, 0, 1, 1);
    x.begin(1, 65520);
    x.begin(2, 65519);
    Due.is("go(0, 77)", x.go(0, 77), true);
    Due.is("-1 + 1 + 2", x.at(1), 2);
    Due.is("the other stays", x.at(2), 65519);
    Due.is("the same place", x.at(0), 0);
    x.go(0, 0);
    Due.is("-1 - 2 + 2", x.at(1), 65520);
    AffineHulls y = new AffineHulls(1, 4);
    Due.draft(y, 65520, 65520, 65520, 65520, 65520);
    y.edge(0, 0, 1, 4);
    for (int k = 1; k <= 4; k++) {
      y.begin(k, 65520);
    }
    y.go(0, 0);
    Due.is("the largest sum", y.at(4), 3);
  }

  private static void forgetOne() {
    AffineHulls x = new AffineHulls(2, 2);
    Due.draft(x, 9, 9, 9);
    x.edge(0, 1, 2, 2);
    x.begin(1, 3);
    Due.is("go(0, -2)", x.go(0, -2), true);
    Due.is("at(2)", x.at(2), 65519);
    Due.is("at(1)", x.at(1), 3);
    Due.is("at(0)", x.at(0), 1);
  }

  private static void questions() {
    AffineHulls x = new AffineHulls(2, 1);
    Due.draft(x, -5, 1);
    x.edge(0, 1, 3, 0);
    Due.draft(x, -5, 1);
    x.edge(0, 1, 4, 0);
    x.begin(1, 4);
    Due.is("x = 5 asked at 4", x.go(0, 0), false);
    Due.is("it stays", x.at(0), 0);
    Due.is("with its value", x.at(1), 4);
    Due.is("x != 5 asked at 4", x.go(1, 0), true);
    Due.is("it goes", x.at(0), 1);
    x.begin(1, 5);
    Due.is("x != 5 asked at 5", x.go(1, 0), false);
    Due.is("x = 5 asked at 5", x.go(0, 0), true);
    Due.is("nothing is changed", x.at(1), 5);
    Due.is("it goes", x.at(0), 1);
    AffineHulls y = new AffineHulls(2, 1);
    y.edge(0, 0, 3, 0);
    y.edge(0, 0, 4, 0);
    Due.is("0 = 0", y.go(0, 0), true);
    Due.is("0 != 0", y.go(1, 0), false);
  }

  private static void refused() {
    AffineHulls x = new AffineHulls(2, 1);
    x.edge(0, 1, 0, 0);
    x.edge(1, 0, 0, 0);
    Due.badArgument("go(-1, 0)", () -> x.go(-1, 0));
    Due.badArgument("go(2, 0)", () -> x.go(2, 0));
    Due.badArgument("go(MAX, 0)", () -> x.go(Integer.MAX_VALUE, 0));
    Due.badArgument("go(1, 0) from 0", () -> x.go(1, 0));
    Due.is("it stays", x.at(0), 0);
    x.go(0, 0);
    Due.badArgument("go(0, 0) from 1", () -> x.go(0, 0));
    Due.is("go(1, 0) from 1", x.go(1, 0), true);
    Due.badArgument("at(-1)", () -> x.at(-1));
    Due.badArgument("at(2)", () -> x.at(2));
  }

  private static void apartFromAnalysis() {
    AffineHulls x = new AffineHulls(2, 1);
    Due.draft(x, 1, 1);
    x.edge(0, 1, 1, 1);
    x.begin(1, 7);
    x.go(0, 0);
    x.analyse();
    x.noteAll();
    x.sound();
    x.holds(1);
    x.edge(1, 1, 0, 0);
    Due.is("at(0)", x.at(0), 1);
    Due.is("at(1)", x.at(1), 8);
    x.term(0, 1);
    x.begin(1, 3);
    x.analyse();
    x.go(0, 0);
    Due.is("at(1)", x.at(1), 4);
    Due.is("begin and go change no program", x.points(1), 2);
    Due.is("nor the draft", x.holds(0), false);
  }
}
