/** Compares answers with the ones that are due, and prints those that differ. */
final class Due {
  private static int wrong = 0;
  private static int asked = 0;
  private static String sentence = "";

  private Due() {}

  /** Each test by itself: what one throws does not keep the others from being asked. */
  static void each(Runnable... tests) {
    for (Runnable test : tests) {
      sentence("");
      try {
        test.run();
      } catch (RuntimeException e) {
        tell("it threw " + e);
      }
    }
  }

  /** What is asked from here on would be wrong if this sentence of the document were broken. */
  static void sentence(String words) {
    sentence = words;
  }

  /** "..." stands for words of the document that are left out. */
  static void sentence(String words, String boundaryCase) {
    sentence = words + " [" + boundaryCase + "]";
  }

  static void is(String call, long got, long want) {
    asked++;
    if (got != want) {
      tell(call + " answered " + got + ", due is " + want);
    }
  }

  private static void tell(String fault) {
    wrong++;
    if (!sentence.isEmpty()) {
      System.out.println("\"" + sentence + "\":");
    }
    System.out.println(fault);
  }

  static void is(String call, boolean got, boolean want) {
    is(call, got ? 1 : 0, want ? 1 : 0);
  }

  /** Asks for exactly this exception, not for one that extends it. */
  static void refuses(String call, Class<? extends RuntimeException> want, Runnable run) {
    asked++;
    Class<?> got = null;
    try {
      run.run();
    } catch (RuntimeException e) {
      got = e.getClass();
    }
    if (got != want) {
      tell(call + " threw " + got + ", due is " + want);
    }
  }

  static void badArgument(String call, Runnable run) {
    refuses(call, IllegalArgumentException.class, run);
  }

  static void badState(String call, Runnable run) {
    refuses(call, IllegalStateException.class, run);
  }

  static void unsupported(String call, Runnable run) {
    refuses(call, UnsupportedOperationException.class, run);
  }

  static void badIndex(String call, Runnable run) {
    refuses(call, IndexOutOfBoundsException.class, run);
  }

  /** Sets the draft: constant first, then the variables' coefficients. */
  static void draft(AffineHulls x, int... form) {
    for (int k = 0; k < form.length; k++) {
      x.term(k, form[k]);
    }
  }

  /** The values of a point, or the coefficients of an equation, are compared one by one. */
  static void pointIs(AffineHulls x, int node, int i, int... want) {
    for (int k = 0; k < want.length; k++) {
      is("point(" + node + ", " + i + ", " + k + ")", x.point(node, i, k), want[k]);
    }
  }

  static void equationIs(AffineHulls x, int node, int i, int... want) {
    for (int k = 0; k < want.length; k++) {
      is("coefficient(" + node + ", " + i + ", " + k + ")", x.coefficient(node, i, k), want[k]);
    }
  }

  static void end() {
    System.out.println(asked + " answers asked, " + wrong + " wrong");
    System.exit(wrong == 0 && asked > 0 ? 0 : 1);
  }
}
