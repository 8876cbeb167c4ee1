/** Promises 8 to 10: equations, coefficient, holds. */
public final class EquationsTest {
  public static void main(String[] args) {
    noPoints();
    onePoint();
    severalAssigned();
    loop();
    holds();
    refused();
    Due.end();
  }

  private static void noPoints() {
    AffineHulls x = new AffineHulls(2, 2);
    x.analyse();
    Due.is("equations(0)", x.equations(0), 0);
    Due.is("equations(1)", x.equations(1), 3);
    Due.equationIs(x, 1, 0, 0, 1, 0);
    Due.equationIs(x, 1, 1, 0, 0, 1);
    Due.equationIs(x, 1, 2, 1, 0, 0);
  }

  private static void onePoint() {
    AffineHulls x = new AffineHulls(3, 2);
    Due.draft(x, 5, 0, 0);
    x.edge(0, 1, 1, 1);
    Due.draft(x, -6, 0, 0);
    x.edge(1, 2, 1, 2);
    x.analyse();
    Due.is("equations(1)", x.equations(1), 1);
    Due.equationIs(x, 1, 0, 65516, 1, 0);
    Due.is("equations(2)", x.equations(2), 2);
    Due.equationIs(x, 2, 0, 65516, 1, 0);
    Due.equationIs(x, 2, 1, 6, 0, 1);
  }

  /** 2x + 3z + 1 = y: x = (y - 3z - 1) / 2, written with 1 at variable 1. */
  private static void severalAssigned() {
    AffineHulls x = new AffineHulls(3, 3);
    Due.draft(x, 1, 2, 0, 3);
    x.edge(0, 1, 1, 2);
    Due.draft(x, 8, 0, 0, 0);
    x.edge(1, 2, 1, 3);
    x.analyse();
    int half = 32761;
    Due.is("equations(1)", x.equations(1), 1);
    Due.equationIs(x, 1, 0, half, 1, 65521 - half, 3 * half % 65521);
    Due.is("equations(2): z = 8 alone", x.equations(2), 1);
    Due.equationIs(x, 2, 0, 65513, 0, 0, 1);
  }

  /** y grows by 2 when x grows by 1, from (0, 0): y = 2x at node 2 all the time. */
  private static void loop() {
    AffineHulls x = new AffineHulls(4, 2);
    x.edge(0, 1, 1, 1);
    x.edge(1, 2, 1, 2);
    Due.draft(x, 1, 1, 0);
    x.edge(2, 3, 1, 1);
    Due.draft(x, 2, 0, 1);
    x.edge(3, 2, 1, 2);
    x.analyse();
    Due.is("equations(2)", x.equations(2), 1);
    Due.equationIs(x, 2, 0, 0, 1, 65520 - 32760);
    Due.equationIs(x, 3, 0, 65520, 1, 65520 - 32760);
    Due.draft(x, 0, 2, -1);
    Due.is("2x - y holds at 2", x.holds(2), true);
    Due.draft(x, 0, 2, -1);
    Due.is("2x - y holds at 3", x.holds(3), false);
    Due.draft(x, -2, 2, -1);
    Due.is("2x - y - 2 holds at 3", x.holds(3), true);
  }

  private static void holds() {
    AffineHulls x = new AffineHulls(3, 2);
    Due.draft(x, 1, 0, 1);
    Due.badState("holds(0) before analyse()", () -> x.holds(0));
    Due.badArgument("holds(3) before analyse()", () -> x.holds(3));
    x.edge(0, 1, 1, 1);
    x.analyse();
    Due.draft(x, 65520, 1, 65520);
    Due.badArgument("holds(3)", () -> x.holds(3));
    Due.badArgument("holds(-1)", () -> x.holds(-1));
    Due.is("x = y + 1, draft kept by what threw", x.holds(1), true);
    Due.is("the draft is all 0 then", x.holds(0), true);
    Due.draft(x, 65520, 1, 65520);
    Due.is("x = y + 1 at 0", x.holds(0), false);
    Due.is("the draft is all 0 after false", x.holds(0), true);
    Due.draft(x, 1, 1, 1);
    Due.is("all holds where no point is", x.holds(2), true);
    Due.draft(x, 0, 0, 1);
    Due.is("only the last point says no", x.holds(0), false);
    x.term(1, 1);
    x.entry(1);
    Due.badState("holds(0) after entry()", () -> x.holds(0));
    x.analyse();
    Due.is("the draft was kept", x.holds(1), false);
  }

  private static void refused() {
    AffineHulls x = new AffineHulls(2, 1);
    Due.badState("equations(0) before analyse()", () -> x.equations(0));
    Due.badArgument("equations(2) before analyse()", () -> x.equations(2));
    Due.badArgument("equations(-1) before analyse()", () -> x.equations(-1));
    Due.badState("coefficient(1, 7, 0) before analyse()", () -> x.coefficient(1, 7, 0));
    Due.badArgument("coefficient(2, 0, 0) before analyse()", () -> x.coefficient(2, 0, 0));
    Due.badArgument("coefficient(0, 0, 2) before analyse()", () -> x.coefficient(0, 0, 2));
    x.analyse();
    Due.badArgument("coefficient(-1, 0, 0)", () -> x.coefficient(-1, 0, 0));
    Due.badArgument("coefficient(0, 5, -1)", () -> x.coefficient(0, 5, -1));
    Due.badIndex("coefficient(0, 0, 0)", () -> x.coefficient(0, 0, 0));
    Due.badIndex("coefficient(1, 2, 0)", () -> x.coefficient(1, 2, 0));
    Due.badIndex("coefficient(1, -1, 0)", () -> x.coefficient(1, -1, 0));
    x.edge(0, 1, 0, 0);
    Due.badState("equations(0) after edge()", () -> x.equations(0));
    Due.badState("coefficient(1, 0, 0) after edge()", () -> x.coefficient(1, 0, 0));
  }
}
