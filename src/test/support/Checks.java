/**
 * What the tests share: an answer is compared with the one that is due, and a wrong one is printed
 * with the promise and the sentence of the document that it breaks.
 */
class Checks {
  static final int ALL = 1022;
  static final int LEAST = Integer.MIN_VALUE;
  static final int MOST = Integer.MAX_VALUE;
  static final boolean[] DIRECTIONS = {false, true};

  private static String sentence = "";
  private static int asked = 0;
  private static int wrong = 0;

  interface Call {
    Object call();
  }

  interface Ask {
    Object of(CryptSums x);
  }

  interface Test {
    void run();
  }

  /** A test of its own for one sentence; one that compares nothing holds nothing, so it fails. */
  static void holds(String place, String words, Test test) {
    sentence = place + ", \"" + words + "\": ";
    int before = asked;
    try {
      test.run();
    } catch (RuntimeException e) {
      due("the test", "throws " + e, "throws nothing");
    }
    if (asked == before) {
      due("the test", "compares nothing", "compares");
    }
    sentence = "";
  }

  static void due(String what, Object got, Object want) {
    asked++;
    if (!want.equals(got)) {
      wrong++;
      System.out.println(sentence + what + " answered " + got + ", due is " + want);
    }
  }

  static Object answer(Call call) {
    try {
      return call.call();
    } catch (RuntimeException e) {
      return e.getClass();
    }
  }

  /** The call throws just this, and changes nothing: the digest tells all that the object holds. */
  static void refused(CryptSums x, String what, Class<?> exception, Call call) {
    long before = x.digest();
    due(what, answer(call), exception);
    due(what + ", then digest()", x.digest(), before);
  }

  static void noCell(CryptSums x, String what, Call call) {
    refused(x, what, IndexOutOfBoundsException.class, call);
  }

  static void noArgument(CryptSums x, String what, Call call) {
    refused(x, what, IllegalArgumentException.class, call);
  }

  static void noState(CryptSums x, String what, Call call) {
    refused(x, what, IllegalStateException.class, call);
  }

  /** Around the last cell, and around the last one of the largest floor. */
  static int[] noCells(CryptSums x) {
    int cells = x.count(0);
    return new int[] {LEAST, -cells, -1, cells, cells + 1, 36, 37, MOST};
  }

  static int bits(int... numbers) {
    int set = 0;
    for (int number : numbers) {
      set |= 1 << number;
    }
    return set;
  }

  static CryptSums floor(int w, int h, int... pillars) {
    CryptSums x = new CryptSums();
    x.setFloor(w, h);
    for (int cell : pillars) {
      x.pillar(cell);
    }
    return x;
  }

  static void counts(String where, CryptSums x, int... want) {
    for (int what = 0; what < want.length; what++) {
      due(where + " count(" + what + ")", x.count(what), want[what]);
    }
  }

  static void corridor(String where, CryptSums x, int cell, boolean down, int... want) {
    for (int what = 0; what < want.length; what++) {
      due(where + " corridor(" + cell + ", " + down + ", " + what + ")",
          x.corridor(cell, down, what), want[what]);
    }
  }

  static void stones(String where, CryptSums x, int... want) {
    for (int cell = 0; cell < want.length; cell++) {
      due(where + " stone(" + cell + ")", x.stone(cell), want[cell]);
    }
  }

  static void solved(String where, CryptSums x, int... want) {
    for (int cell = 0; cell < want.length; cell++) {
      due(where + " solved(" + cell + ")", x.solved(cell), want[cell]);
    }
  }

  static void found(String where, CryptSums x, int fillings, int tries) {
    due(where + " fillings()", x.fillings(), fillings);
    due(where + " tries()", x.tries(), tries);
  }

  static void end(String name) {
    System.out.println(name + ": " + (wrong == 0 ? "all " + asked + " as due" : wrong + " wrong"));
    if (wrong != 0) {
      System.exit(1);
    }
  }
}
