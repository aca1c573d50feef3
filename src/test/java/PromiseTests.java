/** For each promise: ordinary calls, the edges that the document names, and wrong calls. */
public final class PromiseTests extends Checks {
  private static final int[] NO_SIDES = {LEAST, -1, 0, 1, 7, 8, MOST};

  public static void main(String[] args) {
    newObject();
    setFloor();
    setFloorRefused();
    pillar();
    sumsWait();
    setSum();
    put();
    force();
    forceFillsAll();
    stone();
    corridorTold();
    corridorWell();
    can();
    canInNoWellCorridor();
    count();
    ways();
    forced();
    fillings();
    hundredthWay();
    mostTries();
    solved();
    next();
    would();
    wouldRefused();
    mean();
    digest();
    freshAnswers();
    end("PromiseTests");
  }

  // Promise 1

  private static void newObject() {
    CryptSums x = new CryptSums();
    counts("new", x, 16, 4, 16, 0, 8, 0, 8, 0, 0);
    for (int cell = 0; cell < 16; cell++) {
      due("new stone(" + cell + ")", x.stone(cell), 0);
      due("new can(" + cell + ")", x.can(cell), ALL);
      due("new setSum across", x.setSum(cell, false, 0), 0);
      due("new setSum down", x.setSum(cell, true, 0), 0);
    }
    corridor("new", x, 6, false, 4, 4, 0, 0, 0, 1);
    corridor("new", x, 6, true, 2, 4, 0, 0, 0, 1);
  }

  // Promise 2

  private static void setFloor() {
    for (int w = 2; w <= 6; w++) {
      for (int h = 2; h <= 6; h++) {
        layOverAnother(w, h);
      }
    }
    CryptSums x = floor(6, 6, 35);
    x.setSum(0, true, 3);
    due("a smaller one", x.setFloor(2, 2), 4);
    due("a larger one", x.setFloor(5, 6), 30);
    counts("a larger one", x, 30, 5, 30, 0, 11, 0, 11, 0, 0);
  }

  /** A new object for each, as one is promised for 512 calls. */
  private static void layOverAnother(int w, int h) {
    CryptSums x = new CryptSums();
    String where = "setFloor(" + w + ", " + h + ")";
    due(where, x.setFloor(w, h), w * h);
    counts(where, x, w * h, w, w * h, 0, w + h, 0, w + h, 0, 0);
    corridor(where, x, w * h - 1, false, w * (h - 1), w);
    corridor(where, x, w * h - 1, true, w - 1, h);
    for (int cell = 0; cell < w * h; cell++) {
      due(where + " stone", x.stone(cell), 0);
      due(where + " sum across", x.setSum(cell, false, 9), 0);
      due(where + " sum down", x.setSum(cell, true, 9), 0);
      x.put(cell, 7);
      if (cell % 3 == 0) {
        x.pillar(cell);
      }
    }
    due(where + " again", x.setFloor(w, h), w * h);
    counts(where + " again", x, w * h, w, w * h, 0, w + h, 0, w + h, 0, 0);
    for (int cell = 0; cell < w * h; cell++) {
      due(where + " again, stone", x.stone(cell), 0);
      due(where + " again, sum across", x.setSum(cell, false, 0), 0);
      due(where + " again, sum down", x.setSum(cell, true, 0), 0);
    }
  }

  private static void setFloorRefused() {
    CryptSums x = floor(3, 5, 4);
    x.put(2, 8);
    x.setSum(0, true, 30);
    for (int no : NO_SIDES) {
      noArgument(x, "setFloor(" + no + ", 3)", () -> x.setFloor(no, 3));
      noArgument(x, "setFloor(3, " + no + ")", () -> x.setFloor(3, no));
      noArgument(x, "setFloor(" + no + ", " + no + ")", () -> x.setFloor(no, no));
    }
    counts("after refused floors", x, 15, 3, 14, 1);
  }

  // Promise 3

  private static void pillar() {
    CryptSums x = floor(3, 3);
    x.put(4, 5);
    due("pillar onto a stone", x.pillar(4), true);
    due("its stone is gone", x.stone(4), -1);
    counts("a pillar in the middle", x, 9, 3, 8, 0, 8, 0, 8, 0, 0);
    due("pillar taken away", x.pillar(4), false);
    due("its stone stays away", x.stone(4), 0);
    counts("no pillar any more", x, 9, 3, 9, 0, 6, 0, 6, 0, 0);
    due("the last cell", x.pillar(8), true);
    due("the first cell", x.pillar(0), true);
    for (int no : noCells(x)) {
      noCell(x, "pillar(" + no + ")", () -> x.pillar(no));
    }
  }

  private static void sumsWait() {
    CryptSums x = floor(4, 2);
    x.setSum(0, false, 20);
    x.setSum(2, false, 5);
    x.setSum(6, true, 3);
    corridor("a sum waits inside a corridor", x, 3, false, 0, 4, 20, 0, 0, 1);
    counts("one sum holds", x, 8, 4, 8, 0, 6, 1);
    x.pillar(1);
    corridor("a pillar ahead: the sum holds", x, 3, false, 2, 2, 5, 0, 0, 1);
    corridor("a corridor of one cell", x, 0, false, 0, 1, 20, 0, 0, 0);
    x.pillar(2);
    corridor("a pillar on it: it waits", x, 3, false, 3, 1, 0, 0, 0, 1);
    corridor("below the pillar a sum holds", x, 6, true, 6, 1, 3, 0, 0, 1);
    counts("sums that hold", x, 8, 4, 6, 0, 7, 2);
    x.pillar(2);
    corridor("it holds again", x, 2, false, 2, 2, 5, 0, 0, 1);
    corridor("and that below waits", x, 6, true, 2, 2, 0, 0, 0, 1);
    x.pillar(1);
    corridor("all is as it was", x, 2, false, 0, 4, 20, 0, 0, 1);
    due("the sum that waited is told", x.setSum(2, false, 0), 5);
    x.setSum(7, false, 11);
    x.setSum(7, true, 12);
    x.pillar(7);
    due("a pillar keeps the sum across", x.setSum(7, false, 13), 11);
    due("a pillar keeps the sum down", x.setSum(7, true, 14), 12);
    x.pillar(7);
    due("so does the open cell, across", x.setSum(7, false, 0), 13);
    due("so does the open cell, down", x.setSum(7, true, 0), 14);
  }

  // Promise 4

  private static void setSum() {
    CryptSums x = floor(2, 3, 3);
    due("first sum", x.setSum(0, false, 1), 0);
    due("the sum before", x.setSum(0, false, 45), 1);
    due("none again", x.setSum(0, false, 0), 45);
    due("none was told", x.setSum(0, false, 0), 0);
    due("onto a pillar", x.setSum(3, true, 7), 0);
    due("down and across are two", x.setSum(3, false, 8), 0);
    due("down of it", x.setSum(3, true, 0), 7);
    due("across of it", x.setSum(3, false, 0), 8);
    x.setSum(5, true, 6);
    due("it holds for the corridor that begins there", x.can(5), bits(6));
    for (int no : noCells(x)) {
      noCell(x, "setSum(" + no + ", false, 5)", () -> x.setSum(no, false, 5));
      noCell(x, "setSum(" + no + ", true, 46)", () -> x.setSum(no, true, 46));
    }
    for (int no : new int[] {LEAST, -1, 46, MOST}) {
      noArgument(x, "setSum(0, true, " + no + ")", () -> x.setSum(0, true, no));
      noArgument(x, "setSum(3, false, " + no + ")", () -> x.setSum(3, false, no));
    }
  }

  // Promise 5

  private static void put() {
    CryptSums x = floor(3, 2, 4);
    due("first stone", x.put(0, 9), 0);
    due("in its place", x.put(0, 1), 9);
    due("now lies", x.stone(0), 1);
    due("one that cannot stand", x.put(1, 1), 0);
    due("lies all the same", x.stone(1), 1);
    due("taken away", x.put(0, 0), 1);
    due("none lies", x.stone(0), 0);
    due("none again", x.put(0, 0), 0);
    for (int no : noCells(x)) {
      noCell(x, "put(" + no + ", 5)", () -> x.put(no, 5));
      noCell(x, "put(" + no + ", 10)", () -> x.put(no, 10));
    }
    for (int no : new int[] {LEAST, -1, 10, MOST}) {
      noArgument(x, "put(1, " + no + ")", () -> x.put(1, no));
      noArgument(x, "put onto the pillar " + no, () -> x.put(4, no));
    }
    noState(x, "put onto the pillar 5", () -> x.put(4, 5));
    noState(x, "put onto the pillar 0", () -> x.put(4, 0));
  }

  // Promise 6

  private static void force() {
    CryptSums x = floor(3, 2);
    due("nothing is forced", x.force(), 0);
    x.setSum(0, true, 3);
    x.setSum(1, true, 4);
    x.setSum(3, false, 6);
    due("first and second", x.can(3), bits(1, 2));
    due("nothing is forced yet", x.force(), 0);
    due("one and three", x.put(1, 1), 0);
    due("three below, two above, one below, and so two beside", x.force(), 4);
    due("stone 0", x.stone(0), 2);
    due("stone 3", x.stone(3), 1);
    due("stone 4", x.stone(4), 3);
    due("stone 5", x.stone(5), 2);
    due("stone 2 stays free", x.stone(2), 0);
    due("then none", x.force(), 0);
    CryptSums y = floor(2, 2);
    y.setSum(0, false, 3);
    y.setSum(0, true, 17);
    y.setSum(2, false, 17);
    due("no number can stand in 0", y.can(0), 0);
    due("and two in the others", y.force(), 0);
    CryptSums z = floor(2, 2, 1, 2);
    z.setSum(0, false, 4);
    z.setSum(3, true, 9);
    due("two that wait", z.force(), 2);
    due("stone 0", z.stone(0), 4);
    due("stone 3", z.stone(3), 9);
    CryptSums s = floor(2, 2, 3);
    s.setSum(1, true, 5);
    s.setSum(2, false, 5);
    s.setSum(0, false, 6);
    due("5 in both corridors of one cell, so 1 between them", s.force(), 3);
    due("stone 0", s.stone(0), 1);
    due("stone 2", s.stone(2), 5);
    CryptSums t = floor(2, 2);
    t.put(2, 6);
    t.setSum(0, false, 3);
    t.setSum(0, true, 7);
    t.setSum(1, true, 11);
    due("0 forces 1, 1 forces 3", t.force(), 3);
    due("stone 3", t.stone(3), 9);
    order();
  }

  /** Two cells of one corridor can each bear just the same number: the smaller cell gets it. */
  private static void order() {
    CryptSums x = floor(2, 2);
    x.setSum(0, true, 10);
    x.setSum(1, true, 10);
    x.put(2, 9);
    x.put(3, 9);
    due("both are forced", x.count(7), 2);
    due("one of them comes", x.force(), 1);
    due("into the smaller", x.stone(0), 1);
    due("not into the larger", x.stone(1), 0);
  }

  private static void forceFillsAll() {
    CryptSums x = floor(6, 6);
    for (int row = 0; row < 6; row++) {
      for (int column = 0; column < 6; column++) {
        if ((row + column) % 2 == 1) {
          x.pillar(6 * row + column);
        } else {
          x.setSum(6 * row + column, false, 1 + row);
        }
      }
    }
    due("eighteen single cells", x.force(), 18);
    counts("all filled", x, 36, 6, 18, 18, 36, 18, 36, 0, 0);
    due("the last", x.stone(35), 6);
    CryptSums y = floor(2, 2, 0, 1, 2, 3);
    due("pillars alone", y.force(), 0);
  }

  // Promise 7

  private static void stone() {
    CryptSums x = floor(6, 6, 17);
    x.put(35, 9);
    x.put(0, 1);
    due("first", x.stone(0), 1);
    due("last", x.stone(35), 9);
    due("none", x.stone(16), 0);
    due("pillar", x.stone(17), -1);
    for (int no : noCells(x)) {
      noCell(x, "stone(" + no + ")", () -> x.stone(no));
    }
    CryptSums y = floor(2, 2);
    noCell(y, "stone(4) of four cells", () -> y.stone(4));
  }

  // Promise 8

  private static void corridorTold() {
    CryptSums x = floor(5, 3, 7);
    x.setSum(8, false, 12);
    x.setSum(2, true, 2);
    x.put(9, 7);
    x.put(4, 6);
    corridor("behind the pillar", x, 9, false, 8, 2, 12, 1, 7, 1);
    corridor("ahead of the pillar", x, 6, false, 5, 2, 0, 0, 0, 1);
    corridor("down with two stones", x, 14, true, 4, 3, 0, 2, 13, 1);
    corridor("a corridor of one cell", x, 2, true, 2, 1, 2, 0, 0, 1);
    corridor("below the pillar", x, 12, true, 12, 1, 0, 0, 0, 1);
    corridor("the pillar across", x, 7, false, -1, -1, -1, -1, -1, -1);
    corridor("the pillar down", x, 7, true, -1, -1, -1, -1, -1, -1);
    for (int no : noCells(x)) {
      noCell(x, "corridor(" + no + ", false, 0)", () -> x.corridor(no, false, 0));
      noCell(x, "corridor(" + no + ", true, 9)", () -> x.corridor(no, true, 9));
    }
    for (int no : new int[] {LEAST, -1, 6, MOST}) {
      noCell(x, "corridor(0, true, " + no + ")", () -> x.corridor(0, true, no));
      noCell(x, "corridor(7, false, " + no + ")", () -> x.corridor(7, false, no));
    }
  }

  private static void well(String where, CryptSums x, int sum, int want) {
    x.setSum(0, false, sum);
    due(where + " with " + sum + ", well", x.corridor(0, false, 5), want);
  }

  private static void corridorWell() {
    CryptSums x = floor(6, 2);
    well("six cells", x, 20, 0);
    well("six cells", x, 21, 1);
    well("six cells", x, 39, 1);
    well("six cells", x, 40, 0);
    well("six cells", x, 45, 0);
    x.put(0, 9);
    well("nine among six", x, 23, 0);
    well("nine among six", x, 24, 1);
    x.put(5, 9);
    due("two alike without a sum", alone(x), 0);
    well("two alike", x, 30, 0);
    CryptSums one = floor(2, 2, 1);
    well("one cell", one, 1, 1);
    well("one cell", one, 9, 1);
    well("one cell", one, 10, 0);
    well("one cell", one, 45, 0);
    one.put(0, 4);
    well("one full cell", one, 4, 1);
    well("one full cell", one, 5, 0);
    well("one full cell", one, 3, 0);
    CryptSums two = floor(2, 2);
    two.put(1, 4);
    well("the same once more", two, 8, 0);
    well("other", two, 9, 1);
    well("none left for it", two, 4, 0);
    well("less than the stone", two, 3, 0);
    CryptSums three = floor(3, 2);
    three.put(0, 1);
    well("5 + 3 and 6 + 2 make 8", three, 9, 1);
    three.put(0, 2);
    well("1 + 3 make 4", three, 6, 1);
    well("1 + 2 would not do", three, 5, 0);
  }

  private static int alone(CryptSums x) {
    x.setSum(0, false, 0);
    return x.corridor(0, false, 5);
  }

  // Promise 9

  private static void can() {
    CryptSums x = floor(3, 2);
    due("all", x.can(0), ALL);
    x.setSum(0, false, 7);
    due("1, 2 and 4", x.can(1), bits(1, 2, 4));
    x.setSum(1, true, 17);
    due("no 8 nor 9 above", x.can(1), 0);
    due("8 and 9 below, of which none fits above: down is well", x.can(4), bits(8, 9));
    x.setSum(1, true, 5);
    due("both corridors tell", x.can(1), bits(1, 2, 4));
    x.put(0, 4);
    due("a stone takes its number", x.can(1), bits(1, 2));
    due("where a stone lies", x.can(0), 0);
    due("across there is no sum", x.can(3), ALL & ~bits(4));
    x.pillar(2);
    due("pillar", x.can(2), 0);
    due("the rest of the sum", x.can(1), bits(3));
    x.put(0, 0);
    due("a stone taken away", x.can(1), bits(1, 2, 3, 4));
    for (int no : noCells(x)) {
      noCell(x, "can(" + no + ")", () -> x.can(no));
    }
    CryptSums full = floor(2, 2, 1);
    full.setSum(0, false, 9);
    due("nine as bits", full.can(0), 512);
    full.setSum(0, false, 1);
    due("one as bits", full.can(0), 2);
  }

  private static void canInNoWellCorridor() {
    CryptSums x = floor(4, 2);
    x.put(0, 5);
    x.put(1, 5);
    due("two alike in its row", x.can(2), 0);
    due("not in this row", x.can(6), ALL);
    due("under one of them", x.can(4), ALL & ~bits(5));
    CryptSums y = floor(2, 2);
    y.setSum(0, false, 2);
    due("no two make 2", y.can(0), 0);
    due("in neither", y.can(1), 0);
    due("but below", y.can(2), ALL);
    CryptSums single = floor(2, 2, 1);
    single.setSum(0, false, 10);
    due("no number makes 10", single.can(0), 0);
  }

  // Promise 10

  private static void count() {
    CryptSums x = floor(4, 3, 0, 11);
    counts("two pillars", x, 12, 4, 10, 0, 7, 0, 7, 0, 0);
    x.setSum(1, false, 7);
    x.setSum(4, true, 5);
    x.setSum(8, true, 9);
    x.put(9, 3);
    x.put(10, 3);
    counts("two alike", x, 12, 4, 10, 2, 7, 2, 6, 0, 1);
    x.put(10, 0);
    x.setSum(8, false, 19);
    counts("9 and 7 make 19 with 3", x, 12, 4, 10, 1, 7, 3, 7, 0, 1);
    x.setSum(4, true, 17);
    counts("9 in 8", x, 12, 4, 10, 1, 7, 3, 7, 1, 0);
    CryptSums pillars = floor(2, 2, 0, 1, 2, 3);
    counts("pillars alone", pillars, 4, 2, 0, 0, 0, 0, 0, 0, 0);
    CryptSums cross = floor(3, 3, 1, 3, 5, 7);
    counts("corridors of one cell", cross, 9, 3, 5, 0, 10, 0, 10, 0, 0);
    for (int no : new int[] {LEAST, -1, 9, MOST}) {
      noCell(x, "count(" + no + ")", () -> x.count(no));
    }
  }

  // Promise 11

  private static void ways() {
    CryptSums x = new CryptSums();
    due("ways(1, 1)", x.ways(1, 1), 1);
    due("ways(1, 9)", x.ways(1, 9), 1);
    due("ways(1, 10)", x.ways(1, 10), 0);
    due("ways(2, 2)", x.ways(2, 2), 0);
    due("ways(2, 3)", x.ways(2, 3), 1);
    due("ways(2, 10)", x.ways(2, 10), 4);
    due("ways(3, 15)", x.ways(3, 15), 8);
    due("ways(4, 20)", x.ways(4, 20), 12);
    due("ways(8, 44)", x.ways(8, 44), 1);
    due("ways(8, 45)", x.ways(8, 45), 0);
    due("ways(9, 45)", x.ways(9, 45), 1);
    due("ways(9, 44)", x.ways(9, 44), 0);
    int all = 0;
    for (int cells = 1; cells <= 9; cells++) {
      for (int sum = 1; sum <= 45; sum++) {
        all += x.ways(cells, sum);
      }
    }
    due("all sets but the empty one", all, 511);
    for (int no : new int[] {LEAST, -1, 0, 10, MOST}) {
      noArgument(x, "ways(" + no + ", 10)", () -> x.ways(no, 10));
    }
    for (int no : new int[] {LEAST, -1, 0, 46, MOST}) {
      noArgument(x, "ways(2, " + no + ")", () -> x.ways(2, no));
    }
  }

  // Promise 12

  private static void forced() {
    CryptSums x = new CryptSums();
    due("forced(2, 3)", x.forced(2, 3), bits(1, 2));
    due("forced(2, 17)", x.forced(2, 17), bits(8, 9));
    due("forced(2, 5)", x.forced(2, 5), 0);
    due("forced(3, 8)", x.forced(3, 8), bits(1));
    due("forced(3, 22)", x.forced(3, 22), bits(9));
    due("forced(2, 18)", x.forced(2, 18), 0);
    due("forced(1, 45)", x.forced(1, 45), 0);
    due("forced(1, 9)", x.forced(1, 9), bits(9));
    due("forced(8, 40)", x.forced(8, 40), ALL & ~bits(5));
    due("forced(9, 45)", x.forced(9, 45), ALL);
    due("forced(9, 1)", x.forced(9, 1), 0);
    for (int no : new int[] {LEAST, -1, 0, 10, MOST}) {
      noArgument(x, "forced(" + no + ", 10)", () -> x.forced(no, 10));
    }
    for (int no : new int[] {LEAST, -1, 0, 46, MOST}) {
      noArgument(x, "forced(2, " + no + ")", () -> x.forced(2, no));
    }
  }

  // Promises 13 and 14

  private static void fillings() {
    CryptSums single = floor(2, 2, 0, 1, 2);
    found("one cell", single, 9, 9);
    single.setSum(3, true, 8);
    found("one cell with a sum", single, 1, 9);
    single.put(3, 8);
    found("filled", single, 1, 0);
    single.put(3, 7);
    found("filled and not well", single, 0, 0);
    single.put(3, 0);
    single.setSum(3, false, 9);
    found("two sums that quarrel, each well", single, 0, 9);
    single.setSum(3, false, 10);
    found("a sum that cannot be", single, 0, 0);
    CryptSums two = floor(2, 2, 2, 3);
    found("two cells", two, 72, 90);
    two.setSum(0, false, 3);
    found("1 and 2, or 2 and 1", two, 2, 27);
    two.put(0, 1);
    found("2 is left", two, 1, 9);
    CryptSums pillars = floor(2, 2, 0, 1, 2, 3);
    found("pillars alone", pillars, 1, 0);
    CryptSums full = floor(2, 2);
    full.put(0, 1);
    full.put(1, 2);
    full.put(2, 2);
    full.put(3, 1);
    found("all open cells filled", full, 1, 0);
    full.put(3, 2);
    found("two alike", full, 0, 0);
    full.put(0, 0);
    found("two alike, one open", full, 0, 0);
  }

  /** Cells alone: the first bears 1 for 1 + 9 * 10 tries, which make 81 ways, and so on. */
  private static void hundredthWay() {
    CryptSums two = floor(3, 3, 1, 3, 5, 7, 2, 6, 8);
    found("two cells alone", two, 81, 90);
    CryptSums three = floor(3, 3, 1, 3, 5, 7, 6, 8);
    found("three cells alone", three, 100, 91 + 1 + 10 + 10 + 2);
    due("the first of a hundred", three.solved(0), 1);
    due("and its last cell", three.solved(4), 1);
    CryptSums open = floor(2, 2);
    found("open floor", open, 100, 146);
    CryptSums many = floor(3, 4, 0, 7, 9, 10);
    many.setSum(1, false, 12);
    many.setSum(1, true, 9);
    many.setSum(6, false, 3);
    many.setSum(8, false, 9);
    many.setSum(11, false, 4);
    many.put(11, 4);
    found("ninety-nine ways", many, 99, 3663);
  }

  private static void mostTries() {
    CryptSums last = floor(3, 2);
    last.setSum(0, true, 11);
    last.setSum(1, true, 15);
    last.setSum(3, false, 18);
    found("the 100th way with the 4000th try", last, 100, 4000);
    CryptSums over = floor(3, 3);
    over.setSum(0, false, 16);
    over.setSum(0, true, 21);
    over.setSum(1, true, 12);
    over.setSum(2, true, 12);
    over.put(1, 4);
    found("the 4001st try would make the 100th way", over, -1, 4001);
    for (int cell = 0; cell < 9; cell++) {
      due("not known, solved(" + cell + ")", over.solved(cell), 0);
    }
    due("not known, would", over.would(1, 4), -1);
    due("one stone more, and it is known", over.would(2, 3) >= 0, true);
  }

  // Promise 15

  private static void solved() {
    CryptSums x = floor(2, 2);
    x.setSum(0, false, 3);
    x.setSum(2, false, 4);
    x.setSum(0, true, 5);
    due("2, 1 above 3, 1 has two alike", x.fillings(), 0);
    due("so there is no first", x.solved(0), 0);
    x.setSum(2, false, 5);
    due("1, 2 above 4, 1 and 2, 1 above 3, 2", x.fillings(), 2);
    solved("the first of both", x, 1, 2, 4, 1);
    for (int cell = 0; cell < 4; cell++) {
      due("nothing is changed", x.stone(cell), 0);
    }
    x.put(0, 2);
    solved("the second with its stone", x, 2, 1, 3, 2);
    x.put(0, 1);
    x.put(1, 1);
    due("not well", x.solved(0), 0);
    due("not well, no stone", x.solved(2), 0);
    CryptSums first = floor(2, 2, 3);
    due("first of many", first.solved(0), 1);
    due("then the next that fits", first.solved(1), 2);
    due("and below", first.solved(2), 2);
    due("a pillar", first.solved(3), 0);
    CryptSums full = floor(2, 2, 0, 3);
    full.put(1, 9);
    full.put(2, 9);
    due("all is filled", full.solved(1), 9);
    due("a pillar beside", full.solved(0), 0);
    full.setSum(1, true, 8);
    due("filled, not well", full.solved(2), 0);
    CryptSums none = floor(2, 2, 1);
    none.put(0, 4);
    none.setSum(3, false, 9);
    none.setSum(2, false, 5);
    none.setSum(0, true, 10);
    due("no way", none.solved(0), 0);
    due("no way, open", none.solved(3), 0);
    for (int no : noCells(x)) {
      noCell(x, "solved(" + no + ")", () -> x.solved(no));
    }
  }

  // Promise 16

  private static void next() {
    CryptSums x = floor(3, 2);
    due("all alike: the smallest", x.next(), 0);
    x.setSum(2, true, 3);
    due("1 and 2", x.next(), 2);
    x.put(2, 1);
    due("2 alone", x.next(), 5);
    x.setSum(0, false, 25);
    due("none can stand", x.next(), 0);
    x.pillar(0);
    x.setSum(0, false, 0);
    due("not a pillar", x.next(), 5);
    CryptSums full = floor(2, 2, 0);
    full.put(1, 1);
    full.put(2, 2);
    due("the only one", full.next(), 3);
    full.put(3, 3);
    due("without any", full.next(), -1);
    CryptSums pillars = floor(2, 2, 0, 1, 2, 3);
    due("pillars alone", pillars.next(), -1);
  }

  // Promise 17

  private static void would() {
    CryptSums x = floor(2, 2, 2, 3);
    long before = x.digest();
    due("8 are left beside it", x.would(0, 4), 8);
    x.setSum(0, false, 3);
    due("1 wants 2", x.would(0, 1), 1);
    due("3 is too much", x.would(1, 3), 0);
    x.put(0, 1);
    due("in the place of a stone", x.would(0, 2), 1);
    due("the same stone", x.would(0, 1), 1);
    due("it still lies", x.stone(0), 1);
    due("the last stone, well", x.would(1, 2), 1);
    due("the last stone, not well", x.would(1, 1), 0);
    due("none lies there", x.stone(1), 0);
    due("fillings() as before", x.fillings(), 1);
    due("tries() as before", x.tries(), 9);
    x.put(0, 0);
    x.setSum(0, false, 0);
    due("nothing is changed", x.digest(), before);
    CryptSums three = floor(3, 3, 1, 3, 5, 7, 6);
    due("a hundred at most", three.would(0, 1), 100);
  }

  private static void wouldRefused() {
    CryptSums x = floor(3, 2, 5);
    x.put(0, 3);
    for (int no : noCells(x)) {
      noCell(x, "would(" + no + ", 5)", () -> x.would(no, 5));
      noCell(x, "would(" + no + ", 0)", () -> x.would(no, 0));
    }
    for (int no : new int[] {LEAST, -1, 0, 10, MOST}) {
      noArgument(x, "would(0, " + no + ")", () -> x.would(0, no));
      noArgument(x, "would on the pillar " + no, () -> x.would(5, no));
    }
    noState(x, "would on the pillar 1", () -> x.would(5, 1));
    noState(x, "would on the pillar 9", () -> x.would(5, 9));
  }

  // Promise 18

  private static void mean() {
    CryptSums x = floor(2, 2);
    due("all", x.mean(), 9.0);
    x.put(0, 1);
    due("8, 8 and 9", x.mean(), 25.0 / 3.0);
    x.pillar(3);
    due("8 and 8", x.mean(), 8.0);
    x.setSum(0, false, 8);
    due("1 and 8", x.mean(), 4.5);
    x.put(1, 1);
    due("8 alone", x.mean(), 8.0);
    x.put(2, 1);
    due("without any", x.mean(), 0.0);
    due("pillars alone", floor(2, 2, 0, 1, 2, 3).mean(), 0.0);
    CryptSums none = floor(2, 2, 1, 2, 3);
    none.setSum(0, true, 11);
    due("one in which none can", none.mean(), 0.0);
  }

  // Promise 19

  private static void digest() {
    CryptSums x = floor(3, 2, 2);
    x.setSum(0, false, 5);
    x.setSum(2, true, 40);
    x.setSum(4, false, 44);
    x.put(0, 2);
    x.put(4, 7);
    long d = 1663;
    for (int what = 0; what < 9; what++) {
      d = d * 31 + x.count(what);
    }
    int[][] told = {{5, 0}, {0, 0}, {0, 40}, {0, 0}, {44, 0}, {0, 0}};
    for (int cell = 0; cell < 6; cell++) {
      d = d * 31 + x.stone(cell);
      d = d * 31 + told[cell][0];
      d = d * 31 + told[cell][1];
      d = d * 31 + x.can(cell);
      for (int what = 0; what < 6; what++) {
        d = d * 31 + x.corridor(cell, false, what);
      }
      for (int what = 0; what < 6; what++) {
        d = d * 31 + x.corridor(cell, true, what);
      }
    }
    d = d * 31 + x.fillings();
    d = d * 31 + x.tries();
    due("digest()", x.digest(), d);
    due("digest() again", x.digest(), d);
    x.setSum(4, false, 43);
    due("a sum that waits tells", x.digest() == d, false);
    CryptSums pillars = floor(2, 2, 0, 1, 2, 3);
    long p = 1663;
    for (int n : new int[] {4, 2, 0, 0, 0, 0, 0, 0, 0}) {
      p = p * 31 + n;
    }
    for (int cell = 0; cell < 4; cell++) {
      for (int n : new int[] {-1, 0, 0, 0, -1, -1, -1, -1, -1, -1, -1, -1, -1, -1, -1, -1}) {
        p = p * 31 + n;
      }
    }
    p = (p * 31 + 1) * 31;
    due("digest() of pillars alone", pillars.digest(), p);
  }

  /** What fillings() tells is told anew after each call that changes the floor. */
  private static void freshAnswers() {
    CryptSums x = floor(2, 2, 0, 1, 2);
    due("nine ways", x.fillings(), 9);
    x.setSum(3, false, 4);
    due("after setSum", x.fillings(), 1);
    x.put(3, 5);
    due("after put", x.fillings(), 0);
    x.pillar(3);
    due("after pillar", x.fillings(), 1);
    due("and its tries", x.tries(), 0);
    x.pillar(3);
    due("after pillar again", x.tries(), 9);
    x.force();
    due("after force", x.tries(), 0);
    x.setFloor(2, 2);
    due("after setFloor", x.fillings(), 100);
    x.would(0, 1);
    due("after would", x.tries(), 146);
  }
}
