/** Promises 1 to 6, "the floor": a test for each sentence that names a boundary. */
public final class FloorSentences extends Checks {
  private static final String NEW = "Promise 1: A new object";
  private static final String SET_FLOOR = "Promise 2: setFloor";
  private static final String PILLAR = "Promise 3: pillar";
  private static final String SET_SUM = "Promise 4: setSum";
  private static final String PUT = "Promise 5: put";
  private static final String FORCE = "Promise 6: force";
  private static final int[] NO_SIDES = {LEAST, -6, -1, 0, 1, 7, 8, 36, 65536, MOST};

  public static void main(String[] args) {
    newObjectAndSetFloor();
    pillar();
    setSum();
    put();
    force();
    end("FloorSentences");
  }

  private static void newObjectAndSetFloor() {
    holds(NEW, "Creates an open floor of 4 columns and 4 rows, without sums and stones",
        FloorSentences::openWithoutSumsAndStones);
    holds(SET_FLOOR, "Lays another floor: open", FloorSentences::layOpen);
    holds(SET_FLOOR, "Lays another floor: open, without sums", FloorSentences::layWithoutSums);
    holds(SET_FLOOR, "Lays another floor: open, without sums and stones", FloorSentences::layWithoutStones);
    holds(SET_FLOOR, "Returns how many cells it has", FloorSentences::layAnswersCells);
    holds(SET_FLOOR, "Throws `IllegalArgumentException` if w or h is not 2 to 6", FloorSentences::layRefusesSides);
  }

  private static void pillar() {
    holds(PILLAR, "Sets a pillar into a cell", FloorSentences::pillarIntoEdgeCells);
    holds(PILLAR, "(its stone is gone then)", FloorSentences::pillarTakesStone);
    holds(PILLAR, "or takes it away", FloorSentences::pillarTakenAway);
    holds(PILLAR, "Returns whether it is a pillar then", FloorSentences::pillarAnswers);
    holds(PILLAR, "Throws `IndexOutOfBoundsException` if there is no such cell", FloorSentences::pillarRefusesCells);
  }

  private static void setSum() {
    holds(SET_SUM, "a cell, open or not", FloorSentences::sumAtPillar);
    holds(SET_SUM, "whether that of the corridor down, otherwise across", FloorSentences::sumOfOneDirection);
    holds(SET_SUM, "the sum of the corridor that begins there", FloorSentences::sumWhereOneBegins);
    holds(SET_SUM, "0 for none", FloorSentences::sumNone);
    holds(SET_SUM, "Returns the one that was told there, 0 for none", FloorSentences::sumAnswers);
    holds(SET_SUM, "Throws `IndexOutOfBoundsException` if there is no such cell", FloorSentences::sumRefusesCells);
    holds(SET_SUM, "Throws `IllegalArgumentException` if sum is not 0 to 45", FloorSentences::sumRefusesSums);
  }

  private static void put() {
    holds(PUT, "Puts a stone into a cell, in the place of any", FloorSentences::putInPlaceOfAny);
    holds(PUT, "whether it can stand there or not", FloorSentences::putWhatCannotStand);
    holds(PUT, "its number, 0 for none", FloorSentences::putNone);
    holds(PUT, "Returns the one before, 0 for none", FloorSentences::putAnswers);
    holds(PUT, "Throws `IndexOutOfBoundsException` if there is no such cell", FloorSentences::putRefusesCells);
    holds(PUT, "Throws `IllegalArgumentException` if number is not 0 to 9", FloorSentences::putRefusesNumbers);
    holds(PUT, "Throws `IllegalStateException` if it is a pillar", FloorSentences::putRefusesPillars);
  }

  private static void force() {
    holds(FORCE, "Puts stones wherever just one number can stand", FloorSentences::forceOneNumber);
    holds(FORCE, "in an open cell without one", FloorSentences::forceEmptyOpenCells);
    holds(FORCE, "into the one of these with the smallest cell number", FloorSentences::forceSmallestCell);
    holds(FORCE, "again and again", FloorSentences::forceAgain);
    holds(FORCE, "as all is then", FloorSentences::forceAsAllIsThen);
    holds(FORCE, "till there is none", FloorSentences::forceTillNone);
    holds(FORCE, "Returns how many stones come so", FloorSentences::forceAnswers);
  }

  // Promise 1

  private static void openWithoutSumsAndStones() {
    CryptSums x = new CryptSums();
    counts("new", x, 16, 4, 16, 0, 8, 0, 8, 0, 0);
    for (int cell = 0; cell < 16; cell++) {
      due("new stone(" + cell + ")", x.stone(cell), 0);
      due("new can(" + cell + ")", x.can(cell), ALL);
      due("new sum across at " + cell, x.setSum(cell, false, 0), 0);
      due("new sum down at " + cell, x.setSum(cell, true, 0), 0);
      corridor("new", x, cell, false, cell / 4 * 4, 4, 0, 0, 0, 1);
      corridor("new", x, cell, true, cell % 4, 4, 0, 0, 0, 1);
    }
    due("new fillings()", x.fillings(), 100);
    due("new next()", x.next(), 0);
    due("new mean()", x.mean(), 9.0);
    due("new force()", x.force(), 0);
    due("cell 15 is there", x.solved(15) > 0, true);
    noCell(x, "stone(16)", () -> x.stone(16));
    due("as laid by setFloor(4, 4)", x.digest(), floor(4, 4).digest());
    CryptSums other = new CryptSums();
    other.put(0, 9);
    due("of its own", x.stone(0), 0);
  }

  // Promise 2

  private static void layOpen() {
    for (int side = 2; side <= 6; side++) {
      CryptSums x = floor(6, 6);
      for (int cell = 0; cell < 36; cell++) {
        x.pillar(cell);
      }
      x.setFloor(side, 6);
      counts("after 36 pillars, columns " + side, x, side * 6, side, side * 6, 0, side + 6, 0, side + 6, 0, 0);
      for (int cell = 0; cell < side * 6; cell++) {
        due("stone(" + cell + ")", x.stone(cell), 0);
        corridor("after 36 pillars", x, cell, false, cell / side * side, side);
        corridor("after 36 pillars", x, cell, true, cell % side, 6);
      }
    }
    CryptSums same = floor(2, 2, 0, 3);
    same.setFloor(2, 2);
    counts("the same sides", same, 4, 2, 4, 0, 4, 0, 4, 0, 0);
    CryptSums back = floor(6, 6, 35, 5, 30);
    back.setFloor(2, 2);
    back.setFloor(6, 6);
    counts("smaller, then as before", back, 36, 6, 36, 0, 12, 0, 12, 0, 0);
  }

  private static void layWithoutSums() {
    CryptSums x = floor(6, 6);
    for (int cell = 0; cell < 36; cell++) {
      x.setSum(cell, false, 45);
      x.setSum(cell, true, 45);
    }
    x.setFloor(2, 2);
    counts("smaller", x, 4, 2, 4, 0, 4, 0, 4, 0, 0);
    due("all numbers can stand", x.can(3), ALL);
    x.setFloor(6, 6);
    counts("and larger", x, 36, 6, 36, 0, 12, 0, 12, 0, 0);
    for (int cell = 0; cell < 36; cell++) {
      due("sum across told at " + cell, x.setSum(cell, false, 0), 0);
      due("sum down told at " + cell, x.setSum(cell, true, 0), 0);
    }
    CryptSums waiting = floor(3, 3, 4);
    waiting.setSum(4, false, 9);
    waiting.setSum(4, true, 9);
    waiting.setSum(8, false, 9);
    waiting.setFloor(3, 3);
    due("none waits at what was a pillar", waiting.setSum(4, false, 0), 0);
    due("nor down", waiting.setSum(4, true, 0), 0);
    due("nor inside a corridor", waiting.setSum(8, false, 0), 0);
  }

  private static void layWithoutStones() {
    CryptSums x = floor(6, 6);
    for (int cell = 0; cell < 36; cell++) {
      x.put(cell, cell % 9 + 1);
    }
    x.setFloor(3, 2);
    stones("smaller", x, 0, 0, 0, 0, 0, 0);
    counts("smaller", x, 6, 3, 6, 0, 5, 0, 5, 0, 0);
    x.setFloor(6, 6);
    for (int cell = 0; cell < 36; cell++) {
      due("larger, stone(" + cell + ")", x.stone(cell), 0);
    }
    counts("larger", x, 36, 6, 36, 0, 12, 0, 12, 0, 0);
    CryptSums full = floor(2, 2);
    full.put(0, 1);
    full.put(1, 1);
    due("not well", full.fillings(), 0);
    full.setFloor(2, 2);
    due("the same sides, fillings()", full.fillings(), 100);
    due("the same sides, digest()", full.digest(), floor(2, 2).digest());
  }

  private static void layAnswersCells() {
    for (int w = 2; w <= 6; w++) {
      for (int h = 2; h <= 6; h++) {
        CryptSums x = new CryptSums();
        due("setFloor(" + w + ", " + h + ")", x.setFloor(w, h), w * h);
        due("again", x.setFloor(w, h), w * h);
        x.pillar(0);
        due("with a pillar before", x.setFloor(w, h), w * h);
        due("then the other way round", x.setFloor(h, w), w * h);
      }
    }
  }

  private static void layRefusesSides() {
    for (int no : NO_SIDES) {
      for (int side = 2; side <= 6; side++) {
        CryptSums x = floor(3, 5, 4);
        int s = side;
        x.put(2, 8);
        x.setSum(0, true, 30);
        x.setSum(4, false, 3);
        noArgument(x, "setFloor(" + no + ", " + s + ")", () -> x.setFloor(no, s));
        noArgument(x, "setFloor(" + s + ", " + no + ")", () -> x.setFloor(s, no));
      }
      CryptSums x = new CryptSums();
      for (int other : NO_SIDES) {
        noArgument(x, "setFloor(" + no + ", " + other + ")", () -> x.setFloor(no, other));
      }
    }
    CryptSums x = new CryptSums();
    due("2 and 2", x.setFloor(2, 2), 4);
    due("6 and 6", x.setFloor(6, 6), 36);
    due("2 and 6", x.setFloor(2, 6), 12);
    due("6 and 2", x.setFloor(6, 2), 12);
  }

  // Promise 3

  private static void pillarIntoEdgeCells() {
    CryptSums x = floor(6, 6);
    for (int cell : new int[] {0, 5, 30, 35, 14}) {
      x.pillar(cell);
      due("pillar at " + cell, x.stone(cell), -1);
      corridor("pillar across", x, cell, false, -1, -1, -1, -1, -1, -1);
      corridor("pillar down", x, cell, true, -1, -1, -1, -1, -1, -1);
      due("no number can stand", x.can(cell), 0);
    }
    counts("five pillars", x, 36, 6, 31, 0, 14, 0, 14, 0, 0);
    CryptSums all = floor(2, 2, 0, 1, 2);
    counts("all but one", all, 4, 2, 1, 0, 2, 0, 2, 0, 0);
    all.pillar(3);
    counts("pillars alone", all, 4, 2, 0, 0, 0, 0, 0, 0, 0);
  }

  private static void pillarTakesStone() {
    CryptSums x = floor(3, 3);
    for (int number = 1; number <= 9; number++) {
      int cell = number - 1;
      x.put(cell, number);
      x.pillar(cell);
      due("a pillar onto " + number, x.stone(cell), -1);
      due("no stone lies", x.count(3), 0);
      x.pillar(cell);
      due("none comes back", x.stone(cell), 0);
      due("none lies", x.count(3), 0);
      due("all can stand", x.can(cell), ALL);
      x.pillar(cell);
      x.pillar(cell);
    }
    CryptSums y = floor(2, 2);
    y.put(0, 4);
    y.put(1, 4);
    due("two alike", y.corridor(0, false, 5), 0);
    y.pillar(1);
    corridor("one is gone", y, 0, false, 0, 1, 0, 1, 4, 1);
    y.pillar(1);
    corridor("and stays away", y, 0, false, 0, 2, 0, 1, 4, 1);
    due("a stone may come", y.put(1, 5), 0);
  }

  private static void pillarTakenAway() {
    CryptSums x = floor(3, 3, 4);
    counts("with it", x, 9, 3, 8, 0, 8, 0, 8, 0, 0);
    x.pillar(4);
    counts("without it", x, 9, 3, 9, 0, 6, 0, 6, 0, 0);
    due("as a new floor", x.digest(), floor(3, 3).digest());
    for (int cell : new int[] {0, 8}) {
      x.pillar(cell);
      x.pillar(cell);
      due("taken away from " + cell, x.digest(), floor(3, 3).digest());
    }
    CryptSums all = floor(2, 2, 0, 1, 2, 3);
    all.pillar(2);
    counts("one open cell", all, 4, 2, 1, 0, 2, 0, 2, 0, 0);
    corridor("alone across", all, 2, false, 2, 1, 0, 0, 0, 1);
    corridor("alone down", all, 2, true, 2, 1, 0, 0, 0, 1);
  }

  private static void pillarAnswers() {
    CryptSums x = floor(6, 6);
    for (int cell : new int[] {0, 17, 35}) {
      due("first", x.pillar(cell), true);
      due("second", x.pillar(cell), false);
      due("third", x.pillar(cell), true);
      due("fourth", x.pillar(cell), false);
      x.put(cell, 1);
      due("onto a stone", x.pillar(cell), true);
    }
  }

  private static void pillarRefusesCells() {
    for (int side = 2; side <= 6; side++) {
      CryptSums x = floor(side, 2, 0);
      for (int no : noCells(x)) {
        noCell(x, "pillar(" + no + ")", () -> x.pillar(no));
      }
      due("the last cell", x.pillar(2 * side - 1), true);
      due("the first cell", x.pillar(0), false);
    }
    CryptSums smaller = floor(6, 6);
    smaller.setFloor(2, 2);
    noCell(smaller, "a cell of the floor before", () -> smaller.pillar(4));
    noCell(smaller, "its last", () -> smaller.pillar(35));
  }

  // Promise 4

  private static void sumAtPillar() {
    for (boolean down : DIRECTIONS) {
      CryptSums x = floor(2, 2, 0);
      due("at a pillar", x.setSum(0, down, 17), 0);
      due("none holds", x.count(5), 0);
      due("told again", x.setSum(0, down, 3), 17);
      x.pillar(0);
      corridor("an open cell then", x, 0, down, 0, 2, 3, 0, 0, 1);
      due("it holds", x.count(5), 1);
      due("at the open cell", x.setSum(0, down, 45), 3);
      x.pillar(0);
      due("at the pillar again", x.setSum(0, down, 0), 45);
    }
  }

  private static void sumOfOneDirection() {
    CryptSums x = floor(6, 6);
    for (int cell : new int[] {0, 7, 35}) {
      due("across", x.setSum(cell, false, 21), 0);
      due("down has none", x.setSum(cell, true, 22), 0);
      due("across has its own", x.setSum(cell, false, 0), 21);
      due("down has its own", x.setSum(cell, true, 0), 22);
    }
    x.setSum(0, true, 23);
    corridor("down", x, 30, true, 0, 6, 23, 0, 0, 1);
    corridor("across", x, 5, false, 0, 6, 0, 0, 0, 1);
    x.setSum(0, true, 0);
    x.setSum(0, false, 24);
    corridor("down no more", x, 30, true, 0, 6, 0, 0, 0, 1);
    corridor("across now", x, 5, false, 0, 6, 24, 0, 0, 1);
  }

  private static void sumWhereOneBegins() {
    CryptSums x = floor(3, 3);
    x.setSum(3, false, 6);
    x.setSum(2, true, 24);
    corridor("of a later row", x, 5, false, 3, 3, 6, 0, 0, 1);
    corridor("of a later column", x, 8, true, 2, 3, 24, 0, 0, 1);
    due("where both cross", x.can(5), 0);
    due("in the row", x.can(4), bits(1, 2, 3));
    due("in the column", x.can(8), bits(7, 8, 9));
    x.setSum(4, false, 1);
    x.setSum(8, true, 1);
    counts("none begins there", x, 9, 3, 9, 0, 6, 2, 6, 0, 1);
  }

  private static void sumNone() {
    for (boolean down : DIRECTIONS) {
      CryptSums x = floor(2, 2);
      x.setSum(0, down, 2);
      due("not well with 2", x.count(6), 3);
      due("none can stand", x.can(0), 0);
      x.setSum(0, down, 0);
      due("well with none", x.count(6), 4);
      due("all can stand", x.can(0), ALL);
      due("none has a sum", x.count(5), 0);
      corridor("none", x, 0, down, 0, 2, 0, 0, 0, 1);
      due("as a new floor", x.digest(), floor(2, 2).digest());
    }
  }

  private static void sumAnswers() {
    for (boolean down : DIRECTIONS) {
      CryptSums x = floor(3, 2, 5);
      for (int cell = 0; cell < 6; cell++) {
        due("none yet at " + cell, x.setSum(cell, down, 1), 0);
        due("1 before 45 at " + cell, x.setSum(cell, down, 45), 1);
        due("45 before itself at " + cell, x.setSum(cell, down, 45), 45);
        due("45 before none at " + cell, x.setSum(cell, down, 0), 45);
        due("none before none at " + cell, x.setSum(cell, down, 0), 0);
        due("none before 7 at " + cell, x.setSum(cell, down, 7), 0);
      }
      x.pillar(0);
      due("a pillar leaves it", x.setSum(0, down, 8), 7);
      x.pillar(1);
      due("a pillar ahead leaves it", x.setSum(2, down, 8), 7);
    }
  }

  private static void sumRefusesCells() {
    for (boolean down : DIRECTIONS) {
      for (int sum : new int[] {0, 1, 45}) {
        CryptSums x = floor(4, 3, 11);
        x.setSum(0, down, 20);
        for (int no : noCells(x)) {
          noCell(x, "setSum(" + no + ", " + down + ", " + sum + ")", () -> x.setSum(no, down, sum));
        }
        due("the first cell", x.setSum(0, down, sum), 20);
        due("the last cell", x.setSum(11, down, sum), 0);
        x.setFloor(6, 6);
        x.setFloor(2, 2);
        noCell(x, "a cell of the floor before", () -> x.setSum(4, down, sum));
      }
    }
  }

  private static void sumRefusesSums() {
    for (boolean down : DIRECTIONS) {
      CryptSums x = floor(3, 2, 5);
      x.setSum(0, down, 9);
      for (int no : new int[] {LEAST, -45, -1, 46, 47, 64, 256, MOST}) {
        for (int cell : new int[] {0, 1, 5}) {
          noArgument(x, "setSum(" + cell + ", " + down + ", " + no + ")", () -> x.setSum(cell, down, no));
        }
      }
      due("45 is one", x.setSum(0, down, 45), 9);
      due("0 is none", x.setSum(0, down, 0), 45);
      due("1 is one", x.setSum(0, down, 1), 0);
    }
  }

  // Promise 5

  private static void putInPlaceOfAny() {
    CryptSums x = floor(2, 2);
    for (int number = 1; number <= 9; number++) {
      x.put(3, number);
      stones("one stone", x, 0, 0, 0, number);
      corridor("one stone", x, 3, false, 2, 2, 0, 1, number, 1);
      corridor("one stone", x, 3, true, 1, 2, 0, 1, number, 1);
    }
    due("one in all", x.count(3), 1);
    due("the same in its place", x.put(3, 9), 9);
    due("still one in all", x.count(3), 1);
    due("another number beside it", x.can(2), ALL & ~bits(9));
    for (int cell = 0; cell < 3; cell++) {
      x.put(cell, 5);
    }
    counts("all full", x, 4, 2, 4, 4, 4, 0, 2, 0, 0);
  }

  private static void putWhatCannotStand() {
    CryptSums x = floor(3, 2);
    x.put(0, 9);
    due("the same beside it", x.put(2, 9), 0);
    corridor("both lie", x, 0, false, 0, 3, 0, 2, 18, 0);
    due("where none can stand", x.can(1), 0);
    due("one comes all the same", x.put(1, 1), 0);
    corridor("three lie", x, 0, false, 0, 3, 0, 3, 19, 0);
    CryptSums y = floor(2, 2, 1);
    y.setSum(0, false, 3);
    due("only 3 can stand", y.can(0), bits(3));
    due("9 comes", y.put(0, 9), 0);
    corridor("9 with a sum 3", y, 0, false, 0, 1, 3, 1, 9, 0);
    due("3 comes", y.put(0, 3), 9);
    corridor("3 with a sum 3", y, 0, false, 0, 1, 3, 1, 3, 1);
  }

  private static void putNone() {
    CryptSums x = floor(2, 2);
    long before = x.digest();
    due("9 comes", x.put(0, 9), 0);
    due("1 comes", x.put(3, 1), 0);
    due("9 goes", x.put(0, 0), 9);
    due("1 goes", x.put(3, 0), 1);
    stones("none", x, 0, 0, 0, 0);
    due("none counted", x.count(3), 0);
    due("none where none lies", x.put(0, 0), 0);
    due("as ahead of them", x.digest(), before);
    due("all can stand", x.can(0), ALL);
  }

  private static void putAnswers() {
    CryptSums x = floor(6, 6);
    for (int cell : new int[] {0, 35}) {
      due("none at first", x.put(cell, 1), 0);
      for (int number = 1; number <= 9; number++) {
        due("the one before", x.put(cell, number), number == 1 ? 1 : number - 1);
      }
      due("9 before none", x.put(cell, 0), 9);
      due("none before none", x.put(cell, 0), 0);
      due("none before 9", x.put(cell, 9), 0);
      x.pillar(cell);
      x.pillar(cell);
      due("none after a pillar", x.put(cell, 2), 0);
    }
    CryptSums y = floor(3, 2);
    y.setSum(0, true, 1);
    y.setSum(0, false, 6);
    y.put(1, 2);
    y.put(2, 3);
    due("not one that only could stand", y.put(0, 4), 0);
  }

  private static void putRefusesCells() {
    for (int number : new int[] {0, 1, 9}) {
      CryptSums x = floor(2, 5, 9);
      x.put(0, 7);
      for (int no : noCells(x)) {
        noCell(x, "put(" + no + ", " + number + ")", () -> x.put(no, number));
      }
      due("the first cell", x.put(0, number), 7);
      due("the last but one, the last is a pillar", x.put(8, number), 0);
      x.setFloor(6, 6);
      x.setFloor(2, 2);
      noCell(x, "a cell of the floor before", () -> x.put(4, number));
    }
  }

  private static void putRefusesNumbers() {
    CryptSums x = floor(3, 2, 4);
    x.put(0, 6);
    for (int no : new int[] {LEAST, -9, -1, 10, 11, 64, 512, MOST}) {
      for (int cell : new int[] {0, 1, 5}) {
        noArgument(x, "put(" + cell + ", " + no + ")", () -> x.put(cell, no));
      }
      due("still 6", x.stone(0), 6);
    }
    due("9 is one", x.put(0, 9), 6);
    due("0 is none", x.put(0, 0), 9);
    due("1 is one", x.put(0, 1), 0);
  }

  private static void putRefusesPillars() {
    for (int cell : new int[] {0, 3, 5}) {
      CryptSums x = floor(3, 2, cell);
      for (int number = 0; number <= 9; number++) {
        int n = number;
        noState(x, "put(" + cell + ", " + n + ") onto a pillar", () -> x.put(cell, n));
        due("still a pillar", x.stone(cell), -1);
      }
      x.pillar(cell);
      due("no pillar any more", x.put(cell, 9), 0);
      x.pillar(cell);
      noState(x, "a pillar again", () -> x.put(cell, 9));
    }
  }

  // Promise 6

  private static void forceOneNumber() {
    CryptSums two = floor(2, 2, 1, 2);
    two.setSum(0, false, 9);
    two.setSum(3, true, 1);
    due("9 and 1", two.force(), 2);
    stones("9 and 1", two, 9, -1, -1, 1);
    CryptSums x = floor(2, 2, 2, 3);
    x.setSum(0, false, 3);
    due("1 and 2 in both", x.force(), 0);
    stones("1 and 2 in both", x, 0, 0, -1, -1);
    x.setSum(0, false, 2);
    due("none in both", x.force(), 0);
    stones("none in both", x, 0, 0, -1, -1);
    x.setSum(0, false, 0);
    due("nine in both", x.force(), 0);
    CryptSums y = floor(3, 2);
    y.setSum(0, false, 6);
    y.setSum(0, true, 12);
    y.setSum(1, true, 17);
    due("none can stand in cell 1, so none comes there", y.can(1), 0);
    due("3, 9 below it, 8 beside that", y.force(), 3);
    stones("3, 9 below it, 8 beside that", y, 3, 0, 0, 9, 8, 0);
    CryptSums last = floor(2, 2);
    last.put(0, 1);
    last.put(1, 2);
    last.put(2, 3);
    last.setSum(2, false, 4);
    due("the last cell", last.force(), 1);
    due("its stone", last.stone(3), 1);
  }

  private static void forceEmptyOpenCells() {
    CryptSums x = floor(2, 2, 1);
    x.put(0, 4);
    x.setSum(0, false, 5);
    x.setSum(1, false, 7);
    x.setSum(1, true, 7);
    due("a stone stays, a pillar stays", x.force(), 0);
    stones("a stone stays, a pillar stays", x, 4, -1, 0, 0);
    CryptSums full = floor(2, 2);
    for (int cell = 0; cell < 4; cell++) {
      full.put(cell, 9);
    }
    due("no empty cell", full.force(), 0);
    stones("no empty cell", full, 9, 9, 9, 9);
    CryptSums pillars = floor(2, 2, 0, 1, 2, 3);
    due("no open cell", pillars.force(), 0);
    stones("no open cell", pillars, -1, -1, -1, -1);
  }

  private static void forceSmallestCell() {
    CryptSums x = floor(2, 2);
    x.setSum(0, true, 10);
    x.setSum(1, true, 10);
    x.put(2, 9);
    x.put(3, 9);
    due("1 in both of the row", x.count(7), 2);
    due("one comes", x.force(), 1);
    stones("to the left", x, 1, 0, 9, 9);
    CryptSums y = floor(3, 2);
    y.setSum(0, false, 9);
    y.setSum(1, true, 15);
    y.setSum(2, true, 15);
    due("6 in two cells", y.force(), 2);
    stones("into the left one, then below", y, 0, 6, 0, 0, 9, 0);
    CryptSums z = floor(2, 2);
    z.setSum(2, false, 3);
    z.setSum(0, true, 11);
    z.put(1, 1);
    due("9 in cell 0 ahead of 2 in cell 3", z.force(), 2);
    stones("9 in cell 0 ahead of 2 in cell 3", z, 9, 1, 2, 0);
  }

  private static void forceAgain() {
    CryptSums x = floor(2, 2);
    x.put(2, 6);
    x.setSum(0, false, 3);
    x.setSum(0, true, 7);
    x.setSum(1, true, 11);
    due("two at first", x.count(7), 2);
    due("three come", x.force(), 3);
    stones("three come", x, 1, 2, 6, 9);
    CryptSums up = floor(3, 2);
    up.setSum(0, false, 13);
    up.setSum(1, true, 3);
    up.setSum(2, true, 4);
    up.put(3, 2);
    due("from the last cell back to the first", up.force(), 4);
    stones("from the last cell back to the first", up, 8, 2, 3, 2, 1, 0);
    forceThirty();
  }

  /** The sums of a filling of 6 columns and 6 rows, of which each cell follows from those ahead. */
  private static void forceThirty() {
    int[] filling = {
      9, 8, 7, 1, 6, 5,
      6, 1, -1, 2, 9, 1,
      -1, 9, 1, 3, -1, 2,
      1, 7, 9, -1, 1, 3,
      9, -1, 2, 1, -1, 9,
      2, 1, 8, 3, 9, 7
    };
    CryptSums x = floor(6, 6);
    for (int cell = 0; cell < 36; cell++) {
      if (filling[cell] < 0) {
        x.pillar(cell);
      }
    }
    for (int cell = 0; cell < 36; cell++) {
      tellSumOf(x, filling, cell, false, 1);
      tellSumOf(x, filling, cell, true, 6);
    }
    due("thirty come", x.force(), 30);
    stones("thirty come", x, filling);
    counts("thirty come", x, 36, 6, 30, 30, 23, 23, 23, 0, 0);
    due("then none", x.force(), 0);
  }

  private static void tellSumOf(CryptSums x, int[] filling, int cell, boolean down, int step) {
    if (x.corridor(cell, down, 0) != cell) {
      return;
    }
    int sum = 0;
    for (int i = 0; i < x.corridor(cell, down, 1); i++) {
      sum += filling[cell + i * step];
    }
    x.setSum(cell, down, sum);
  }

  private static void forceAsAllIsThen() {
    CryptSums x = floor(2, 2);
    x.setSum(0, false, 10);
    x.setSum(2, false, 4);
    x.setSum(1, true, 12);
    due("after 3 below there is 9 above it, then 1, and none is left", x.force(), 3);
    stones("after 3 below", x, 1, 9, 0, 3);
    CryptSums y = floor(3, 2);
    y.setSum(0, false, 13);
    y.setSum(1, true, 3);
    y.setSum(2, true, 4);
    y.put(3, 2);
    due("8 is the smallest cell's before 3 is put below", y.force(), 4);
    due("so 8 lies there", y.stone(0), 8);
    due("and none below the last", y.stone(5), 0);
  }

  private static void forceTillNone() {
    CryptSums x = floor(2, 2);
    x.setSum(0, false, 3);
    x.setSum(2, false, 17);
    x.put(0, 1);
    due("2 comes", x.force(), 1);
    due("8 and 9 are left below", x.count(7), 0);
    stones("8 and 9 are left below", x, 1, 2, 0, 0);
    due("then none", x.force(), 0);
    CryptSums none = floor(2, 2);
    none.setSum(0, true, 10);
    none.setSum(1, true, 10);
    none.put(2, 9);
    none.put(3, 9);
    none.force();
    due("none is left with one", none.count(7), 0);
    due("one is left with none", none.count(8), 1);
    due("then none", none.force(), 0);
  }

  private static void forceAnswers() {
    due("a new object", new CryptSums().force(), 0);
    for (int cells = 0; cells <= 18; cells++) {
      CryptSums x = floor(6, 6);
      int open = 0;
      for (int cell = 0; cell < 36; cell++) {
        boolean isDark = (cell / 6 + cell % 6) % 2 == 1;
        if (isDark) {
          x.pillar(cell);
        } else if (open < cells) {
          x.setSum(cell, false, 9);
          open++;
        }
      }
      due(cells + " with a sum", x.force(), cells);
      due(cells + " with a sum, stones", x.count(3), cells);
      due(cells + " with a sum, again", x.force(), 0);
    }
    CryptSums some = floor(2, 2);
    some.put(0, 1);
    some.setSum(0, false, 10);
    due("those that lay ahead are not counted", some.force(), 1);
  }
}
