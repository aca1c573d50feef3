import java.math.BigInteger;

/** Promises 13 to 19, "what would be": a test for each sentence that names a boundary. */
public final class WouldSentences extends Checks {
  private static final String FILLINGS = "Promise 13: fillings";
  private static final String TRIES = "Promise 14: tries";
  private static final String SOLVED = "Promise 15: solved";
  private static final String NEXT = "Promise 16: next";
  private static final String WOULD = "Promise 17: would";
  private static final String MEAN = "Promise 18: mean";
  private static final String DIGEST = "Promise 19: digest";
  private static final String NO_CELL = "Throws `IndexOutOfBoundsException` if there is no such cell";

  public static void main(String[] args) {
    fillings();
    tries();
    solved();
    next();
    would();
    mean();
    digest();
    end("WouldSentences");
  }

  private static void fillings() {
    holds(FILLINGS, "Returns how many ways there are to fill the floor", WouldSentences::fillingsFew);
    holds(FILLINGS, "at most 100", WouldSentences::fillingsAtMost);
    holds(FILLINGS, "1 if all open cells bear stones, and all corridors are well", WouldSentences::fillingsFull);
    holds(FILLINGS, "0 if some corridor is not well as it is (without a try)", WouldSentences::fillingsNotWell);
    holds(FILLINGS, "-1 if it is not known", WouldSentences::fillingsNotKnown);
  }

  private static void tries() {
    holds(TRIES, "Returns how many tries fillings() takes", WouldSentences::triesTaken);
    holds(TRIES, "at most 4001, with which it stops", WouldSentences::triesAtMost);
    holds(TRIES, "0 if some corridor is not well as it is", WouldSentences::triesNotWell);
  }

  private static void solved() {
    holds(SOLVED, "Returns the number that it bears in the first filling that is found", WouldSentences::solvedFirst);
    holds(SOLVED, "(its stone, if it bears one)", WouldSentences::solvedStone);
    holds(SOLVED, "0 if there is none, also in a cell with a stone", WouldSentences::solvedNone);
    holds(SOLVED, "or if fillings() is not known, even if one was found ahead of that",
        WouldSentences::solvedNotKnown);
    holds(SOLVED, "or if it is a pillar", WouldSentences::solvedPillar);
    holds(SOLVED, "(nothing is changed)", WouldSentences::solvedChangesNothing);
    holds(SOLVED, NO_CELL, WouldSentences::solvedRefusesCells);
  }

  private static void next() {
    holds(NEXT, "Returns the open cell without a stone in which the fewest numbers can stand",
        WouldSentences::nextFewest);
    holds(NEXT, "of several the one with the smallest number", WouldSentences::nextOfSeveral);
    holds(NEXT, "-1 without any", WouldSentences::nextWithoutAny);
  }

  private static void would() {
    holds(WOULD, "Returns how many fillings there would be", WouldSentences::wouldFew);
    holds(WOULD, "as fillings() tells", WouldSentences::wouldAsFillings);
    holds(WOULD, "if it had this stone", WouldSentences::wouldWithThisStone);
    holds(WOULD, "(nothing is changed)", WouldSentences::wouldChangesNothing);
    holds(WOULD, NO_CELL, WouldSentences::wouldRefusesCells);
    holds(WOULD, "Throws `IllegalArgumentException` if number is not 1 to 9", WouldSentences::wouldRefusesNumbers);
    holds(WOULD, "Throws `IllegalStateException` if it is a pillar", WouldSentences::wouldRefusesPillars);
  }

  private static void mean() {
    holds(MEAN, "Returns the mean of how many numbers can stand in open cells without a stone",
        WouldSentences::meanOfEmptyOpenCells);
    holds(MEAN, "0 without any", WouldSentences::meanWithoutAny);
  }

  private static void digest() {
    holds(DIGEST, "A number d starts with 1663; for each of the following numbers x, d becomes d * 31 + x",
        WouldSentences::digestOfPillars);
    holds(DIGEST, "which wraps around as a 64-bit integer", WouldSentences::digestWraps);
    holds(DIGEST, "the sums that were told there, across, then down", WouldSentences::digestSumsThatWait);
    holds(DIGEST, "what fillings() and tries() tell", WouldSentences::digestNotKnown);
  }

  /** The 4001st try ends it, which would make the 100th way; the first one is found with the 41st. */
  private static CryptSums notKnown() {
    CryptSums x = floor(3, 3);
    x.setSum(0, false, 16);
    x.setSum(0, true, 21);
    x.setSum(1, true, 12);
    x.setSum(2, true, 12);
    x.put(1, 4);
    return x;
  }

  // Promise 13

  private static void fillingsFew() {
    CryptSums x = floor(2, 2);
    x.setSum(0, false, 3);
    x.setSum(2, false, 4);
    x.setSum(0, true, 5);
    due("no way, yet all are well", x.fillings(), 0);
    due("all are well", x.count(6), 4);
    x.setSum(2, false, 5);
    due("two ways", x.fillings(), 2);
    x.put(3, 1);
    due("one way", x.fillings(), 1);
    CryptSums one = floor(2, 2, 0, 1, 3);
    due("one cell", one.fillings(), 9);
    one.setSum(2, false, 9);
    due("one cell with its sum", one.fillings(), 1);
    one.setSum(2, true, 8);
    due("one cell with two sums", one.fillings(), 0);
    fillingsAfterEachChange();
  }

  /** Asked ahead and again behind each call that changes the floor. */
  private static void fillingsAfterEachChange() {
    CryptSums x = floor(2, 2, 0, 1, 2);
    found("one cell", x, 9, 9);
    solved("one cell", x, 0, 0, 0, 1);
    x.setSum(3, false, 4);
    found("after setSum", x, 1, 9);
    solved("after setSum", x, 0, 0, 0, 4);
    x.force();
    found("after force", x, 1, 0);
    x.put(3, 5);
    found("after put", x, 0, 0);
    solved("after put", x, 0, 0, 0, 0);
    x.pillar(3);
    found("after pillar", x, 1, 0);
    x.pillar(3);
    found("after pillar again", x, 1, 9);
    x.would(3, 5);
    found("after would", x, 1, 9);
    x.setFloor(2, 2);
    found("after setFloor", x, 100, 146);
  }

  private static void fillingsAtMost() {
    CryptSums ninetyNine = floor(4, 2, 0, 6);
    ninetyNine.setSum(1, false, 21);
    ninetyNine.setSum(7, false, 9);
    ninetyNine.put(4, 5);
    due("99 ways", ninetyNine.fillings(), 99);
    due("8 * 8 and 9 * 8 ways", floor(2, 2, 3).fillings(), 100);
    due("9 * 8 ways", floor(2, 2, 0, 1).fillings(), 72);
    due("9 * 9 ways", floor(2, 2, 0, 3).fillings(), 81);
    for (int w = 2; w <= 6; w++) {
      for (int h = 2; h <= 6; h++) {
        due("open, " + w + " columns and " + h + " rows", floor(w, h).fillings(), 100);
      }
    }
  }

  private static void fillingsFull() {
    CryptSums x = floor(2, 2);
    x.put(0, 1);
    x.put(1, 2);
    x.put(2, 2);
    due("one cell is empty", x.fillings(), 8);
    x.put(3, 1);
    found("full, without sums", x, 1, 0);
    x.setSum(0, false, 3);
    x.setSum(2, false, 3);
    x.setSum(0, true, 3);
    x.setSum(1, true, 3);
    found("full, with the sums", x, 1, 0);
    x.setSum(1, true, 4);
    found("full, with another sum", x, 0, 0);
    x.setSum(1, true, 0);
    x.put(3, 2);
    found("full, with two alike", x, 0, 0);
    CryptSums pillar = floor(2, 2, 3);
    pillar.put(0, 9);
    pillar.put(1, 8);
    pillar.put(2, 8);
    found("full beside a pillar", pillar, 1, 0);
    CryptSums one = floor(2, 2, 0, 1, 2);
    one.put(3, 9);
    found("full with one", one, 1, 0);
    CryptSums pillars = floor(2, 2, 0, 1, 2, 3);
    found("without an open cell", pillars, 1, 0);
    CryptSums large = floor(6, 6);
    for (int cell = 0; cell < 36; cell++) {
      large.put(cell, (cell / 6 + cell % 6) % 6 + 4);
    }
    found("36 stones", large, 1, 0);
    large.put(35, 0);
    found("35 stones", large, 4, 9);
  }

  private static void fillingsNotWell() {
    for (boolean down : DIRECTIONS) {
      CryptSums sum = floor(6, 6);
      int last = down ? 5 : 30;
      sum.setSum(last, down, 20);
      found("six cells cannot make 20", sum, 0, 0);
      sum.setSum(last, down, 21);
      due("they can make 21", sum.tries() > 0, true);
      sum.setSum(last, down, 40);
      found("six cells cannot make 40", sum, 0, 0);
      CryptSums alike = floor(6, 6);
      alike.put(35, 1);
      alike.put(last, 1);
      found("the last line has two alike", alike, 0, 0);
      alike.put(last, 2);
      due("it has no two alike", alike.fillings(), 100);
      CryptSums left = floor(2, 2);
      left.put(3, 9);
      left.setSum(down ? 1 : 2, down, 9);
      found("nothing is left for one cell", left, 0, 0);
      left.setSum(down ? 1 : 2, down, 10);
      found("1 is left for it", left, 57, 9 + 9 * 9 + 9 * (down ? 8 : 64));
    }
    CryptSums one = floor(2, 2, 0, 1, 2);
    one.setSum(3, true, 10);
    found("one cell cannot make 10", one, 0, 0);
  }

  private static void fillingsNotKnown() {
    CryptSums x = notKnown();
    found("not known", x, -1, 4001);
    found("asked again", x, -1, 4001);
    x.put(2, 3);
    due("known with one stone more", x.fillings() >= 0, true);
    x.put(2, 0);
    found("not known as before", x, -1, 4001);
    CryptSums none = floor(3, 3, 1, 4, 7);
    none.setSum(2, true, 24);
    none.setSum(3, false, 8);
    none.setSum(8, false, 2);
    found("no way is found with 4001 tries", none, -1, 4001);
    CryptSums known = floor(4, 2, 0);
    known.setSum(2, true, 6);
    known.setSum(4, false, 22);
    known.setSum(4, true, 2);
    known.put(5, 5);
    found("no way is there after 3996 tries", known, 0, 3996);
  }

  // Promise 14

  private static void triesTaken() {
    CryptSums one = floor(2, 2, 0, 1, 3);
    due("one cell", one.tries(), 9);
    one.setSum(2, false, 1);
    due("one cell in which 1 can stand", one.tries(), 9);
    one.setSum(2, true, 9);
    due("one cell in which none can stand", one.tries(), 9);
    one.put(2, 1);
    due("one stone, not well", one.tries(), 0);
    one.setSum(2, true, 1);
    due("one stone, well", one.tries(), 0);
    CryptSums two = floor(2, 2, 0, 3);
    due("two cells alone", two.tries(), 9 + 9 * 9);
    two.put(1, 5);
    due("the second of them", two.tries(), 9);
    CryptSums hundred = floor(2, 2);
    due("till the 100th way", hundred.tries(), 146);
    due("whether fillings() was asked or not", floor(2, 2).tries(), 146);
    due("pillars alone", floor(2, 2, 0, 1, 2, 3).tries(), 0);
  }

  private static void triesAtMost() {
    CryptSums last = floor(3, 3);
    last.setSum(1, true, 22);
    last.setSum(2, true, 18);
    due("the 100th way with the 4000th", last.tries(), 4000);
    due("it is known", last.fillings(), 100);
    CryptSums over = floor(3, 4, 9);
    over.setSum(0, true, 20);
    over.setSum(1, true, 19);
    over.setSum(2, true, 29);
    due("the 100th way with the 4001st", over.tries(), 4001);
    due("it is not known", over.fillings(), -1);
    CryptSums few = floor(2, 3);
    few.setSum(0, true, 13);
    few.setSum(4, false, 6);
    few.put(1, 4);
    due("4005 would tell all", few.tries(), 4001);
    CryptSums many = floor(6, 6);
    many.setSum(30, false, 21);
    many.setSum(5, true, 39);
    for (int cell = 24; cell < 29; cell++) {
      many.put(cell, cell - 23);
    }
    due("many more would tell all", many.tries(), 4001);
    due("asked again", many.tries(), 4001);
  }

  private static void triesNotWell() {
    CryptSums x = floor(6, 6);
    x.setSum(0, false, 40);
    due("a sum too large", x.tries(), 0);
    x.setSum(0, false, 20);
    due("a sum too small", x.tries(), 0);
    x.setSum(0, false, 0);
    x.put(5, 9);
    x.put(35, 9);
    due("two alike", x.tries(), 0);
    x.pillar(17);
    due("with a pillar between", x.tries() > 0, true);
    CryptSums full = floor(2, 2);
    for (int cell = 0; cell < 4; cell++) {
      full.put(cell, 1);
    }
    due("full and not well", full.tries(), 0);
  }

  // Promise 15

  private static void solvedFirst() {
    CryptSums x = floor(2, 2);
    solved("the first of many", x, 1, 2, 2, 1);
    x.setSum(0, false, 3);
    x.setSum(2, false, 5);
    solved("the first of all", x, 1, 2, 2, 3);
    x.setSum(0, true, 5);
    solved("the first of two", x, 1, 2, 4, 1);
    x.put(3, 2);
    solved("the only one", x, 2, 1, 3, 2);
    x.put(3, 1);
    solved("the other", x, 1, 2, 4, 1);
  }

  private static void solvedStone() {
    CryptSums x = floor(2, 2);
    x.put(3, 9);
    x.put(0, 9);
    solved("two stones", x, 9, 1, 1, 9);
    CryptSums full = floor(2, 2, 0);
    full.put(1, 4);
    full.put(2, 5);
    full.put(3, 6);
    solved("stones alone", full, 0, 4, 5, 6);
  }

  private static void solvedNone() {
    CryptSums alike = floor(2, 2);
    alike.put(0, 5);
    alike.put(1, 5);
    solved("not well", alike, 0, 0, 0, 0);
    alike.put(2, 6);
    alike.put(3, 6);
    solved("full and not well", alike, 0, 0, 0, 0);
    CryptSums none = floor(2, 2);
    none.put(0, 1);
    none.setSum(0, false, 3);
    none.setSum(2, false, 3);
    none.setSum(0, true, 3);
    none.setSum(1, true, 4);
    due("well, and no way", none.fillings(), 0);
    due("tries were made", none.tries() > 0, true);
    solved("well, and no way", none, 0, 0, 0, 0);
    none.setSum(1, true, 3);
    solved("one way", none, 1, 2, 2, 1);
    none.setSum(1, true, 4);
    solved("none again", none, 0, 0, 0, 0);
  }

  private static void solvedNotKnown() {
    CryptSums x = notKnown();
    solved("not known", x, 0, 0, 0, 0, 0, 0, 0, 0, 0);
    due("not known", x.fillings(), -1);
    solved("not known, asked after fillings()", x, 0, 0, 0, 0, 0, 0, 0, 0, 0);
    x.setSum(0, true, 0);
    due("known", x.fillings(), 100);
    due("its stone then", x.solved(1), 4);
    x.setSum(0, true, 21);
    solved("not known as before", x, 0, 0, 0, 0, 0, 0, 0, 0, 0);
    CryptSums few = floor(2, 3);
    few.setSum(0, true, 13);
    few.setSum(4, false, 6);
    few.put(1, 4);
    solved("the first of 94 ways, not known", few, 0, 0, 0, 0, 0, 0);
  }

  private static void solvedPillar() {
    CryptSums x = floor(2, 2, 0, 3);
    x.put(1, 7);
    solved("two pillars", x, 0, 7, 1, 0);
    x.put(2, 8);
    solved("and stones alone", x, 0, 7, 8, 0);
    CryptSums pillars = floor(2, 2, 0, 1, 2, 3);
    solved("pillars alone", pillars, 0, 0, 0, 0);
  }

  private static void solvedChangesNothing() {
    CryptSums x = floor(3, 2, 5);
    x.setSum(0, false, 6);
    x.put(1, 3);
    long before = x.digest();
    for (int cell = 0; cell < 6; cell++) {
      x.solved(cell);
      due("after solved(" + cell + ")", x.digest(), before);
    }
    stones("after solved()", x, 0, 3, 0, 0, 0, -1);
    CryptSums first = floor(2, 2);
    first.solved(0);
    stones("asked first of all", first, 0, 0, 0, 0);
    counts("asked first of all", first, 4, 2, 4, 0, 4, 0, 4, 0, 0);
    CryptSums unknown = notKnown();
    unknown.solved(8);
    stones("not known", unknown, 0, 4, 0, 0, 0, 0, 0, 0, 0);
  }

  private static void solvedRefusesCells() {
    for (int side = 2; side <= 6; side++) {
      CryptSums x = floor(side, 3, 0);
      for (int no : noCells(x)) {
        noCell(x, "solved(" + no + ")", () -> x.solved(no));
      }
      due("the first, a pillar", x.solved(0), 0);
      due("the last", x.solved(3 * side - 1) > 0, true);
    }
    CryptSums y = floor(2, 2);
    noCell(y, "solved(4) of 4", () -> y.solved(4));
    y.put(0, 1);
    y.put(1, 1);
    noCell(y, "without a filling", () -> y.solved(4));
  }

  // Promise 16

  private static void nextFewest() {
    CryptSums x = floor(3, 2);
    x.setSum(0, true, 3);
    due("two ahead of nine", x.next(), 0);
    x.put(0, 1);
    due("one ahead of eight", x.next(), 3);
    x.setSum(2, true, 18);
    due("none ahead of one", x.next(), 2);
    x.pillar(5);
    due("18 for one cell", x.next(), 2);
    x.pillar(2);
    due("not a pillar", x.next(), 3);
    x.put(3, 2);
    due("not a stone", x.next(), 1);
    x.put(1, 9);
    due("the only one", x.next(), 4);
    CryptSums last = floor(6, 6, 28);
    last.put(34, 9);
    last.put(29, 8);
    due("seven in the last cell", last.next(), 35);
    CryptSums stone = floor(2, 2);
    stone.put(0, 1);
    due("eight beside it, nine aslant", stone.next(), 1);
  }

  private static void nextOfSeveral() {
    CryptSums x = floor(6, 6);
    due("all alike", x.next(), 0);
    x.pillar(0);
    due("all but a pillar", x.next(), 1);
    x.put(1, 5);
    x.setSum(35, true, 1);
    due("eight beside the stone", x.next(), 2);
    CryptSums y = floor(3, 3);
    y.setSum(2, true, 24);
    due("three in a column", y.next(), 2);
    y.put(2, 9);
    due("two in the rest of it", y.next(), 5);
    y.setSum(3, false, 2);
    due("none in a row", y.next(), 3);
    y.setSum(0, true, 1);
    due("none in the first column", y.next(), 0);
  }

  private static void nextWithoutAny() {
    CryptSums x = floor(2, 2, 0);
    for (int cell = 1; cell < 4; cell++) {
      due("one is empty", x.next() > 0, true);
      x.put(cell, cell);
    }
    due("full", x.next(), -1);
    x.put(3, 2);
    due("full and not well", x.next(), -1);
    x.put(3, 0);
    due("the last is empty", x.next(), 3);
    x.pillar(3);
    due("a pillar in its place", x.next(), -1);
    due("pillars alone", floor(2, 2, 0, 1, 2, 3).next(), -1);
    CryptSums none = floor(2, 2, 0, 1, 2);
    none.setSum(3, false, 10);
    due("one in which none can stand", none.next(), 3);
  }

  // Promise 17

  private static void wouldFew() {
    CryptSums x = floor(2, 2, 2, 3);
    for (int number = 1; number <= 9; number++) {
      due("eight beside " + number, x.would(0, number), 8);
      due("eight beside " + number, x.would(1, number), 8);
    }
    x.setSum(0, false, 17);
    due("9 beside 8", x.would(0, 8), 1);
    due("8 beside 9", x.would(0, 9), 1);
    due("10 beside 7", x.would(0, 7), 0);
    due("16 beside 1", x.would(0, 1), 0);
    CryptSums last = floor(2, 2, 0, 1, 2);
    last.setSum(3, true, 9);
    due("the last stone, well", last.would(3, 9), 1);
    due("the last stone, not well", last.would(3, 8), 0);
  }

  private static void wouldAsFillings() {
    due("a hundred of 9 * 9 * 9", floor(3, 3, 1, 3, 5, 6, 7).would(0, 1), 100);
    due("9 * 9", floor(3, 3, 1, 3, 5, 6, 7, 8).would(4, 9), 81);
    CryptSums over = notKnown();
    due("not known with the stone that lies", over.would(1, 4), -1);
    over.put(1, 0);
    due("not known with one that comes", over.would(1, 4), -1);
    CryptSums last = floor(3, 3);
    last.setSum(1, true, 22);
    last.setSum(2, true, 18);
    due("each as when it lies", last.would(8, 9), lying(last, 8, 9));
    due("each as when it lies", last.would(1, 9), lying(last, 1, 9));
    due("not well", last.would(1, 4), 0);
  }

  private static int lying(CryptSums x, int cell, int number) {
    x.put(cell, number);
    int told = x.fillings();
    x.put(cell, 0);
    return told;
  }

  private static void wouldWithThisStone() {
    CryptSums x = floor(2, 2, 2, 3);
    x.setSum(0, false, 10);
    x.put(0, 1);
    x.put(1, 1);
    due("not well as it is", x.fillings(), 0);
    due("well with 9 in place of 1", x.would(1, 9), 1);
    due("well with 9 in place of the other", x.would(0, 9), 1);
    due("still two alike", x.would(0, 1), 0);
    x.put(1, 9);
    due("well as it is", x.fillings(), 1);
    due("the stone that lies", x.would(1, 9), 1);
    due("another", x.would(1, 8), 0);
    x.put(1, 0);
    due("in the place of 1 itself", x.would(0, 4), 1);
    due("5 and 5", x.would(0, 5), 0);
  }

  private static void wouldChangesNothing() {
    CryptSums x = floor(3, 2, 5);
    x.setSum(0, false, 12);
    x.setSum(1, true, 9);
    x.put(0, 3);
    x.put(4, 8);
    long before = x.digest();
    int first = x.solved(2);
    for (int cell = 0; cell < 5; cell++) {
      for (int number = 1; number <= 9; number++) {
        x.would(cell, number);
        due("after would(" + cell + ", " + number + ")", x.digest(), before);
      }
      due("the first filling", x.solved(2), first);
    }
    stones("after would()", x, 3, 0, 0, 0, 8, -1);
    CryptSums asked = floor(2, 2);
    found("ahead", asked, 100, 146);
    asked.would(0, 9);
    found("behind", asked, 100, 146);
    solved("behind", asked, 1, 2, 2, 1);
    CryptSums fresh = floor(2, 2);
    fresh.would(0, 9);
    solved("asked first of all", fresh, 1, 2, 2, 1);
    stones("asked first of all", fresh, 0, 0, 0, 0);
    CryptSums unknown = notKnown();
    unknown.would(1, 4);
    stones("not known", unknown, 0, 4, 0, 0, 0, 0, 0, 0, 0);
    unknown.put(1, 0);
    due("not known with 4", unknown.would(1, 4), -1);
    stones("and without a stone ahead", unknown, 0, 0, 0, 0, 0, 0, 0, 0, 0);
  }

  private static void wouldRefusesCells() {
    for (int number : new int[] {1, 9}) {
      CryptSums x = floor(5, 2, 9);
      x.put(0, 3);
      for (int no : noCells(x)) {
        noCell(x, "would(" + no + ", " + number + ")", () -> x.would(no, number));
      }
      due("the first cell", x.would(0, number), 100);
      due("the last but one, the last is a pillar", x.would(8, number), 100);
      x.setFloor(2, 2);
      noCell(x, "a cell of the floor before", () -> x.would(4, number));
    }
  }

  private static void wouldRefusesNumbers() {
    CryptSums x = floor(2, 2, 3);
    x.put(0, 6);
    for (int no : new int[] {LEAST, -9, -1, 0, 10, 11, 64, MOST}) {
      for (int cell = 0; cell < 3; cell++) {
        int c = cell;
        noArgument(x, "would(" + c + ", " + no + ")", () -> x.would(c, no));
      }
      stones("still", x, 6, 0, 0, -1);
    }
    due("1 is one", x.would(1, 1), 8);
    due("9 is one", x.would(1, 9), 8);
  }

  private static void wouldRefusesPillars() {
    for (int cell : new int[] {0, 2, 3}) {
      CryptSums x = floor(2, 2, cell);
      for (int number = 1; number <= 9; number++) {
        int n = number;
        noState(x, "would(" + cell + ", " + n + ") at a pillar", () -> x.would(cell, n));
        due("still a pillar", x.stone(cell), -1);
      }
      x.pillar(cell);
      due("no pillar any more", x.would(cell, 9), 100);
    }
  }

  // Promise 18

  private static void meanOfEmptyOpenCells() {
    CryptSums x = floor(2, 2);
    due("nine in each", x.mean(), 9.0);
    x.put(0, 1);
    due("8, 8 and 9", x.mean(), 25.0 / 3.0);
    x.pillar(3);
    due("8 and 8, a pillar", x.mean(), 8.0);
    x.setSum(0, false, 3);
    due("1 and 8", x.mean(), 4.5);
    x.setSum(0, false, 1);
    due("0 and 8, one in which none can stand", x.mean(), 4.0);
    CryptSums none = floor(2, 2, 0, 1);
    none.setSum(2, false, 2);
    due("0 and 0", none.mean(), 0.0);
    CryptSums third = floor(2, 2, 3);
    third.put(1, 2);
    third.setSum(0, false, 3);
    due("1 and 9", third.mean(), 5.0);
    CryptSums large = floor(6, 6);
    large.put(0, 1);
    due("ten with 8, 25 with 9", large.mean(), 305.0 / 35.0);
  }

  private static void meanWithoutAny() {
    CryptSums x = floor(2, 2, 0);
    for (int cell = 1; cell < 4; cell++) {
      x.put(cell, cell);
    }
    due("stones and a pillar", x.mean(), 0.0);
    x.put(3, 2);
    due("and not well", x.mean(), 0.0);
    x.put(3, 0);
    due("one is empty, 1 above it and 2 beside it", x.mean(), 7.0);
    due("pillars alone", floor(2, 2, 0, 1, 2, 3).mean(), 0.0);
    CryptSums large = floor(6, 6);
    for (int cell = 0; cell < 36; cell++) {
      large.put(cell, 9);
    }
    due("36 stones", large.mean(), 0.0);
  }

  // Promise 19

  /** The document's sum, with numbers that cannot wrap around until they are cut to 64 bits. */
  private static long digestOf(int[]... rows) {
    BigInteger d = BigInteger.valueOf(1663);
    for (int[] row : rows) {
      for (int x : row) {
        d = d.multiply(BigInteger.valueOf(31)).add(BigInteger.valueOf(x));
      }
    }
    return d.longValue();
  }

  private static void digestOfPillars() {
    int[] pillar = {-1, 0, 0, 0, -1, -1, -1, -1, -1, -1, -1, -1, -1, -1, -1, -1};
    due("pillars alone", floor(2, 2, 0, 1, 2, 3).digest(), digestOf(
        new int[] {4, 2, 0, 0, 0, 0, 0, 0, 0}, pillar, pillar, pillar, pillar, new int[] {1, 0}));
    CryptSums one = floor(2, 2, 0, 1, 2);
    one.setSum(3, true, 9);
    due("one open cell", one.digest(), digestOf(
        new int[] {4, 2, 1, 0, 2, 1, 2, 1, 0}, pillar, pillar, pillar,
        new int[] {0, 0, 9, 512, 3, 1, 0, 0, 0, 1, 3, 1, 9, 0, 0, 1}, new int[] {1, 9}));
    one.put(3, 8);
    due("and its stone, not well", one.digest(), digestOf(
        new int[] {4, 2, 1, 1, 2, 1, 1, 0, 0}, pillar, pillar, pillar,
        new int[] {8, 0, 9, 0, 3, 1, 0, 1, 8, 1, 3, 1, 9, 1, 8, 0}, new int[] {0, 0}));
  }

  private static long digestAsTold(CryptSums x, int[] sumsAcross, int[] sumsDown) {
    int cells = x.count(0);
    int[][] rows = new int[cells + 2][];
    rows[0] = new int[9];
    for (int what = 0; what < 9; what++) {
      rows[0][what] = x.count(what);
    }
    for (int cell = 0; cell < cells; cell++) {
      int[] row = new int[16];
      row[0] = x.stone(cell);
      row[1] = sumsAcross[cell];
      row[2] = sumsDown[cell];
      row[3] = x.can(cell);
      for (int what = 0; what < 6; what++) {
        row[4 + what] = x.corridor(cell, false, what);
        row[10 + what] = x.corridor(cell, true, what);
      }
      rows[cell + 1] = row;
    }
    rows[cells + 1] = new int[] {x.fillings(), x.tries()};
    return digestOf(rows);
  }

  private static void digestWraps() {
    for (int w = 2; w <= 5; w++) {
      CryptSums x = floor(w, 6);
      int[] none = new int[6 * w];
      due(w + " columns, 6 rows", x.digest(), digestAsTold(x, none, none));
    }
    boolean isNegative = false;
    boolean isPositive = false;
    CryptSums x = floor(3, 3);
    for (int number = 1; number <= 9; number++) {
      x.put(number - 1, number);
      long digest = x.digest();
      isNegative |= digest < 0;
      isPositive |= digest > 0;
      due("with " + number + " stones, again", x.digest(), digest);
    }
    int[] none = new int[9];
    due("nine stones", x.digest(), digestAsTold(x, none, none));
    due("some wrap to less than 0", isNegative, true);
    due("some to more", isPositive, true);
  }

  private static void digestSumsThatWait() {
    CryptSums x = floor(3, 2, 2);
    int[] across = {5, 44, 3, 0, 45, 1};
    int[] down = {3, 0, 40, 0, 2, 45};
    for (int cell = 0; cell < 6; cell++) {
      x.setSum(cell, false, across[cell]);
      x.setSum(cell, true, down[cell]);
    }
    due("sums that hold, wait, stand at a pillar", x.digest(), digestAsTold(x, across, down));
    x.put(0, 2);
    x.put(4, 7);
    due("with stones", x.digest(), digestAsTold(x, across, down));
    long before = x.digest();
    x.setSum(4, false, 44);
    due("another sum that waits", x.digest() == before, false);
    x.setSum(4, false, 45);
    due("the same again", x.digest(), before);
    x.setSum(2, true, 41);
    due("another sum at a pillar", x.digest() == before, false);
  }

  private static void digestNotKnown() {
    CryptSums x = notKnown();
    int[] across = {16, 0, 0, 0, 0, 0, 0, 0, 0};
    int[] down = {21, 12, 12, 0, 0, 0, 0, 0, 0};
    due("not known", x.digest(), digestAsTold(x, across, down));
    found("-1 and 4001 come last", x, -1, 4001);
    due("asked first of all", notKnown().digest(), digestAsTold(notKnown(), across, down));
    CryptSums full = floor(2, 2);
    full.put(0, 1);
    full.put(3, 1);
    full.put(1, 1);
    full.put(2, 1);
    due("full and not well", full.digest(), digestAsTold(full, new int[4], new int[4]));
  }
}
