/** Promises 7 to 12, "what is there" and "partitions": a test for each sentence that names a boundary. */
public final class AskSentences extends Checks {
  private static final String STONE = "Promise 7: stone";
  private static final String CORRIDOR = "Promise 8: corridor";
  private static final String CAN = "Promise 9: can";
  private static final String COUNT = "Promise 10: count";
  private static final String WAYS = "Promise 11: ways";
  private static final String FORCED = "Promise 12: forced";
  private static final String NO_CELL = "Throws `IndexOutOfBoundsException` if there is no such cell";

  public static void main(String[] args) {
    stone();
    corridor();
    can();
    count();
    ways();
    forced();
    end("AskSentences");
  }

  private static void stone() {
    holds(STONE, "Returns its stone", AskSentences::stoneOneToNine);
    holds(STONE, "0 without one", AskSentences::stoneNone);
    holds(STONE, "-1 if it is a pillar", AskSentences::stonePillar);
    holds(STONE, NO_CELL, AskSentences::stoneRefusesCells);
  }

  private static void corridor() {
    holds(CORRIDOR, "whether the corridor down is asked, otherwise that across", AskSentences::corridorDirections);
    holds(CORRIDOR, "0 its first cell", AskSentences::corridorFirstCell);
    holds(CORRIDOR, "1 how many cells it has", AskSentences::corridorSize);
    holds(CORRIDOR, "2 its sum, 0 for none", AskSentences::corridorSum);
    holds(CORRIDOR, "3 its stones", AskSentences::corridorStones);
    holds(CORRIDOR, "4 what they bear together", AskSentences::corridorTogether);
    holds(CORRIDOR, "5 1 if it is well, else 0", AskSentences::corridorWell);
    holds(CORRIDOR, "-1 for each of these, if the cell is a pillar", AskSentences::corridorOfPillar);
    holds(CORRIDOR, "Throws `IndexOutOfBoundsException` if there is no such cell",
        AskSentences::corridorRefusesCells);
    holds(CORRIDOR, "or what is not 0 to 5", AskSentences::corridorRefusesWhat);
  }

  private static void can() {
    holds(CAN, "Returns the numbers that can stand there, as bits"
        + " (2 for 1, 4 for 2 and so on up to 512 for 9, added)", AskSentences::canBits);
    holds(CAN, "0 if it bears a stone", AskSentences::canStone);
    holds(CAN, "or is a pillar", AskSentences::canPillar);
    holds(CAN, NO_CELL, AskSentences::canRefusesCells);
  }

  private static void count() {
    holds(COUNT, "0 cells, 1 columns", AskSentences::countCellsAndColumns);
    holds(COUNT, "2 open cells", AskSentences::countOpen);
    holds(COUNT, "3 stones", AskSentences::countStones);
    holds(COUNT, "4 corridors of both directions", AskSentences::countCorridors);
    holds(COUNT, "those of one cell as well", AskSentences::countCorridorsOfOneCell);
    holds(COUNT, "5 those of them that have a sum", AskSentences::countSums);
    holds(COUNT, "6 those that are well", AskSentences::countWell);
    holds(COUNT, "7 cells in which just one number can stand", AskSentences::countOneNumber);
    holds(COUNT, "8 open cells without a stone in which none can", AskSentences::countNoNumber);
    holds(COUNT, "Throws `IndexOutOfBoundsException` if what is not 0 to 8", AskSentences::countRefusesWhat);
  }

  private static void ways() {
    holds(WAYS, "how many cells, 1 to 9", AskSentences::waysOfOneAndNineCells);
    holds(WAYS, "a sum, 1 to 45", AskSentences::waysToLeastAndMost);
    holds(WAYS, "Returns in how many ways so many different numbers of 1 to 9 make it"
        + " (their order does not matter)", AskSentences::waysWithoutOrder);
    holds(WAYS, "Throws `IllegalArgumentException` if cells is not 1 to 9", AskSentences::waysRefusesCells);
    holds(WAYS, "or sum is not 1 to 45", AskSentences::waysRefusesSums);
  }

  private static void forced() {
    holds(FORCED, "how many cells, 1 to 9", AskSentences::forcedOfOneAndNineCells);
    holds(FORCED, "a sum, 1 to 45", AskSentences::forcedToLeastAndMost);
    holds(FORCED, "Returns the numbers that are in all of these ways, as bits as can() has it",
        AskSentences::forcedInAllWays);
    holds(FORCED, "0 if there is no way", AskSentences::forcedWithoutWay);
    holds(FORCED, "Throws `IllegalArgumentException` if cells is not 1 to 9", AskSentences::forcedRefusesCells);
    holds(FORCED, "or sum is not 1 to 45", AskSentences::forcedRefusesSums);
  }

  // Promise 7

  private static void stoneOneToNine() {
    CryptSums x = floor(6, 6);
    for (int number = 1; number <= 9; number++) {
      for (int cell : new int[] {0, 5, 30, 35}) {
        x.put(cell, number);
        due("stone " + number + " at " + cell, x.stone(cell), number);
      }
    }
  }

  private static void stoneNone() {
    CryptSums x = floor(3, 2);
    stones("at first", x, 0, 0, 0, 0, 0, 0);
    x.setSum(0, false, 6);
    x.setSum(0, true, 1);
    stones("sums leave no stone", x, 0, 0, 0, 0, 0, 0);
    x.put(5, 9);
    x.put(5, 0);
    due("taken away", x.stone(5), 0);
    x.pillar(5);
    x.pillar(5);
    due("a pillar taken away", x.stone(5), 0);
  }

  private static void stonePillar() {
    CryptSums x = floor(6, 6);
    for (int cell : new int[] {0, 5, 30, 35}) {
      x.pillar(cell);
      due("pillar", x.stone(cell), -1);
      x.pillar(cell);
      x.put(cell, 9);
      x.pillar(cell);
      due("pillar onto a stone", x.stone(cell), -1);
    }
  }

  private static void stoneRefusesCells() {
    for (int side = 2; side <= 6; side++) {
      CryptSums x = floor(side, 6);
      for (int no : noCells(x)) {
        noCell(x, "stone(" + no + ") of " + 6 * side, () -> x.stone(no));
      }
      due("the first", x.stone(0), 0);
      due("the last", x.stone(6 * side - 1), 0);
      CryptSums y = floor(2, 2);
      noCell(y, "stone(4) of 4", () -> y.stone(4));
    }
  }

  // Promise 8

  private static void corridorDirections() {
    CryptSums x = floor(4, 3);
    x.setSum(4, false, 11);
    x.setSum(3, true, 22);
    x.put(4, 1);
    x.put(3, 9);
    x.put(11, 8);
    corridor("across", x, 7, false, 4, 4, 11, 1, 1, 1);
    corridor("down", x, 7, true, 3, 3, 22, 2, 17, 1);
  }

  private static void corridorFirstCell() {
    CryptSums x = floor(4, 4, 5);
    corridor("its own first", x, 0, false, 0);
    corridor("its own first", x, 0, true, 0);
    corridor("the last cell", x, 15, false, 12);
    corridor("the last cell", x, 15, true, 3);
    corridor("ahead of the pillar", x, 4, false, 4);
    corridor("behind the pillar", x, 7, false, 6);
    corridor("above the pillar", x, 1, true, 1);
    corridor("below the pillar", x, 13, true, 9);
  }

  private static void corridorSize() {
    for (int size = 1; size <= 6; size++) {
      CryptSums x = floor(6, 6);
      for (int cell = size; cell < 6; cell++) {
        x.pillar(cell);
        x.pillar(6 * cell);
      }
      due("a row of " + size, x.corridor(size - 1, false, 1), size);
      due("a column of " + size, x.corridor(6 * (size - 1), true, 1), size);
      due("its first cell", x.corridor(0, false, 1), size);
    }
  }

  private static void corridorSum() {
    for (boolean down : DIRECTIONS) {
      CryptSums x = floor(2, 2);
      due("none at first", x.corridor(3, down, 2), 0);
      int first = down ? 1 : 2;
      x.setSum(3, down, 9);
      due("one that waits", x.corridor(3, down, 2), 0);
      for (int sum : new int[] {1, 3, 17, 45}) {
        x.setSum(first, down, sum);
        due("one told", x.corridor(3, down, 2), sum);
        due("at the first cell as well", x.corridor(first, down, 2), sum);
        due("not in the other direction", x.corridor(3, !down, 2), 0);
      }
      x.setSum(first, down, 0);
      due("none again", x.corridor(3, down, 2), 0);
    }
  }

  private static void corridorStones() {
    for (boolean down : DIRECTIONS) {
      CryptSums x = floor(6, 6);
      for (int place = 0; place < 6; place++) {
        int cell = down ? 6 * place : place;
        due(place + " stones", x.corridor(0, down, 3), place);
        x.put(cell, 9);
        due("one more", x.corridor(cell, down, 3), place + 1);
        x.put(cell, 1);
        due("in its place", x.corridor(cell, down, 3), place + 1);
      }
      x.put(0, 0);
      due("one less", x.corridor(0, down, 3), 5);
      x.pillar(down ? 12 : 2);
      due("ahead of a pillar", x.corridor(0, down, 3), 1);
      due("behind it", x.corridor(down ? 30 : 5, down, 3), 3);
      due("of the other lines", x.corridor(7, down, 3), 0);
    }
  }

  private static void corridorTogether() {
    for (boolean down : DIRECTIONS) {
      CryptSums x = floor(6, 6);
      due("no stone", x.corridor(0, down, 4), 0);
      for (int place = 0; place < 6; place++) {
        x.put(down ? 6 * place : place, 9);
        due("nines", x.corridor(0, down, 4), 9 * (place + 1));
      }
      due("all nines, more than 45", x.corridor(0, down, 4), 54);
      x.put(0, 0);
      due("one less", x.corridor(0, down, 4), 45);
      x.pillar(down ? 18 : 3);
      due("ahead of a pillar", x.corridor(0, down, 4), 18);
      due("behind it", x.corridor(down ? 30 : 5, down, 4), 18);
    }
  }

  private static void corridorWell() {
    for (boolean down : DIRECTIONS) {
      CryptSums x = floor(2, 2);
      int second = down ? 2 : 1;
      corridor("empty", x, 0, down, 0, 2, 0, 0, 0, 1);
      x.setSum(0, down, 2);
      due("two cells, sum 2", x.corridor(second, down, 5), 0);
      x.setSum(0, down, 3);
      due("two cells, sum 3", x.corridor(second, down, 5), 1);
      x.setSum(0, down, 17);
      due("two cells, sum 17", x.corridor(second, down, 5), 1);
      x.setSum(0, down, 18);
      due("two cells, sum 18", x.corridor(second, down, 5), 0);
      x.setSum(0, down, 0);
      x.put(0, 9);
      x.put(second, 9);
      due("two alike", x.corridor(second, down, 5), 0);
      x.setSum(0, down, 18);
      due("two alike make the sum", x.corridor(second, down, 5), 0);
      x.put(second, 8);
      due("8 and 9, sum 18", x.corridor(second, down, 5), 0);
      x.setSum(0, down, 17);
      due("8 and 9, sum 17", x.corridor(second, down, 5), 1);
    }
  }

  private static void corridorOfPillar() {
    for (int cell : new int[] {0, 4, 8}) {
      CryptSums x = floor(3, 3);
      x.put(cell, 5);
      x.setSum(cell, false, 10);
      x.setSum(cell, true, 10);
      x.pillar(cell);
      corridor("pillar", x, cell, false, -1, -1, -1, -1, -1, -1);
      corridor("pillar", x, cell, true, -1, -1, -1, -1, -1, -1);
    }
    CryptSums all = floor(2, 2, 0, 1, 2, 3);
    corridor("pillars alone", all, 3, false, -1, -1, -1, -1, -1, -1);
    corridor("pillars alone", all, 3, true, -1, -1, -1, -1, -1, -1);
  }

  private static void corridorRefusesCells() {
    for (int side : new int[] {2, 4, 6}) {
      CryptSums x = floor(side, side);
      for (boolean down : DIRECTIONS) {
        for (int no : noCells(x)) {
          for (int what : new int[] {0, 5, -1, 6}) {
            noCell(x, "corridor(" + no + ", " + down + ", " + what + ")", () -> x.corridor(no, down, what));
          }
        }
        due("the last cell", x.corridor(side * side - 1, down, 1), side);
      }
    }
  }

  private static void corridorRefusesWhat() {
    for (boolean down : DIRECTIONS) {
      CryptSums x = floor(3, 2, 4);
      for (int no : new int[] {LEAST, -2, -1, 6, 7, 8, MOST}) {
        for (int cell : new int[] {0, 4, 5}) {
          noCell(x, "corridor(" + cell + ", " + down + ", " + no + ")", () -> x.corridor(cell, down, no));
        }
      }
      due("5 of an open cell", x.corridor(5, down, 5), 1);
      due("5 of a pillar", x.corridor(4, down, 5), -1);
      due("0 of a pillar", x.corridor(4, down, 0), -1);
    }
  }

  // Promise 9

  private static void canBits() {
    CryptSums x = floor(2, 2, 1, 2, 3);
    due("all", x.can(0), 2 + 4 + 8 + 16 + 32 + 64 + 128 + 256 + 512);
    for (int number = 1; number <= 9; number++) {
      x.setSum(0, false, number);
      due(number + " alone", x.can(0), 1 << number);
    }
    x.setSum(0, false, 10);
    due("none", x.can(0), 0);
    CryptSums y = floor(2, 2, 3);
    for (int number = 1; number <= 9; number++) {
      y.put(1, number);
      due("all but " + number, y.can(0), ALL - (1 << number));
    }
    y.put(1, 9);
    y.put(2, 1);
    due("neither 9 nor 1", y.can(0), ALL - 512 - 2);
    CryptSums z = floor(6, 6);
    z.setSum(0, false, 21);
    due("1 to 6", z.can(5), 2 + 4 + 8 + 16 + 32 + 64);
    z.setSum(5, true, 39);
    due("and 4 to 9", z.can(5), 16 + 32 + 64);
  }

  private static void canStone() {
    CryptSums x = floor(3, 2);
    for (int number = 1; number <= 9; number++) {
      x.put(0, number);
      due("where " + number + " lies", x.can(0), 0);
    }
    x.put(0, 1);
    x.setSum(0, true, 1 + 5);
    due("where it lies rightly", x.can(0), 0);
    due("below it", x.can(3), bits(5));
    x.put(0, 0);
    due("without it", x.can(0), bits(1, 2, 4, 5));
  }

  private static void canPillar() {
    for (int cell : new int[] {0, 4, 5}) {
      CryptSums x = floor(3, 2, cell);
      due("pillar", x.can(cell), 0);
      x.setSum(cell, false, 9);
      x.setSum(cell, true, 9);
      due("pillar with sums", x.can(cell), 0);
      x.setSum(cell, false, 0);
      x.setSum(cell, true, 0);
      x.pillar(cell);
      due("no pillar", x.can(cell), ALL);
    }
  }

  private static void canRefusesCells() {
    for (int side = 2; side <= 6; side++) {
      CryptSums x = floor(6, side);
      for (int no : noCells(x)) {
        noCell(x, "can(" + no + ")", () -> x.can(no));
      }
      due("the first", x.can(0), ALL);
      due("the last", x.can(6 * side - 1), ALL);
    }
    CryptSums y = floor(2, 2);
    noCell(y, "can(4) of 4", () -> y.can(4));
  }

  // Promise 10

  private static void countCellsAndColumns() {
    for (int w = 2; w <= 6; w++) {
      for (int h = 2; h <= 6; h++) {
        CryptSums x = floor(w, h, 0, w * h - 1);
        x.put(1, 1);
        counts(w + " columns, " + h + " rows", x, w * h, w);
      }
    }
  }

  private static void countOpen() {
    CryptSums x = floor(6, 6);
    for (int cell = 0; cell < 36; cell++) {
      due("open cells, pillars " + cell, x.count(2), 36 - cell);
      x.put(cell, 7);
      due("a stone leaves it open", x.count(2), 36 - cell);
      x.pillar(cell);
    }
    due("pillars alone", x.count(2), 0);
    x.pillar(17);
    due("one open cell", x.count(2), 1);
  }

  private static void countStones() {
    CryptSums x = floor(6, 6);
    for (int cell = 0; cell < 36; cell++) {
      due("stones", x.count(3), cell);
      x.put(cell, cell % 9 + 1);
    }
    due("full", x.count(3), 36);
    x.put(0, 9);
    due("one in the place of another", x.count(3), 36);
    x.put(0, 0);
    due("one less", x.count(3), 35);
    x.pillar(35);
    due("a pillar onto one", x.count(3), 34);
    x.pillar(0);
    due("a pillar onto none", x.count(3), 34);
  }

  private static void countCorridors() {
    CryptSums x = floor(3, 3);
    due("three rows, three columns", x.count(4), 6);
    x.pillar(4);
    due("a pillar in the middle parts two", x.count(4), 8);
    x.pillar(0);
    due("one in the edge parts none", x.count(4), 8);
    x.pillar(1);
    due("one that takes a row's last but one", x.count(4), 7);
    CryptSums row = floor(2, 3, 2, 3);
    due("a row of pillars between", row.count(4), 2 + 4);
    CryptSums column = floor(3, 2, 1, 4);
    due("a column of pillars between", column.count(4), 2 + 4);
    CryptSums none = floor(2, 2, 0, 1, 2, 3);
    due("pillars alone", none.count(4), 0);
    due("the largest", floor(6, 6).count(4), 12);
    due("the smallest", floor(2, 2).count(4), 4);
  }

  private static void countCorridorsOfOneCell() {
    CryptSums one = floor(2, 2, 0, 1, 3);
    counts("one cell", one, 4, 2, 1, 0, 2, 0, 2, 0, 0);
    one.setSum(2, false, 5);
    one.setSum(2, true, 10);
    counts("one cell, sums 5 and 10", one, 4, 2, 1, 0, 2, 2, 1, 0, 1);
    CryptSums cross = floor(6, 6);
    for (int cell = 0; cell < 36; cell++) {
      if ((cell / 6 + cell % 6) % 2 == 0) {
        cross.pillar(cell);
      }
    }
    counts("eighteen cells alone", cross, 36, 6, 18, 0, 36, 0, 36, 0, 0);
    CryptSums line = floor(2, 3, 1, 3, 5);
    counts("a column of cells, each alone across", line, 6, 2, 3, 0, 4, 0, 4, 0, 0);
  }

  private static void countSums() {
    CryptSums x = floor(3, 3);
    for (int i = 0; i < 3; i++) {
      due("rows with a sum", x.count(5), i);
      x.setSum(3 * i, false, i == 0 ? 1 : 45);
    }
    for (int i = 0; i < 3; i++) {
      due("columns with a sum", x.count(5), 3 + i);
      x.setSum(i, true, 15);
    }
    due("all", x.count(5), 6);
    x.setSum(4, false, 9);
    x.setSum(8, true, 9);
    due("those that wait are none", x.count(5), 6);
    x.pillar(0);
    due("one at a pillar is none", x.count(5), 4);
    x.pillar(3);
    due("one begins where it waited", x.count(5), 4);
    x.setSum(4, false, 0);
    due("none any more", x.count(5), 3);
  }

  private static void countWell() {
    CryptSums x = floor(2, 2);
    due("all", x.count(6), 4);
    x.put(0, 5);
    x.put(1, 5);
    due("a row is not", x.count(6), 3);
    x.put(3, 5);
    due("nor a column", x.count(6), 2);
    x.put(2, 5);
    due("none is", x.count(6), 0);
    x.pillar(0);
    due("two of one cell, and two of two", x.count(6), 2);
    CryptSums sums = floor(2, 2);
    sums.setSum(0, false, 2);
    sums.setSum(2, false, 18);
    sums.setSum(0, true, 3);
    sums.setSum(1, true, 17);
    due("the columns are", sums.count(6), 2);
    due("of four", sums.count(4), 4);
    CryptSums none = floor(2, 2, 0, 1, 2, 3);
    due("pillars alone", none.count(6), 0);
  }

  private static void countOneNumber() {
    CryptSums x = floor(2, 2);
    due("none", x.count(7), 0);
    x.setSum(0, false, 3);
    x.put(0, 1);
    due("2 beside it", x.count(7), 1);
    x.setSum(0, true, 17);
    due("16 below it cannot be", x.count(7), 1);
    x.setSum(0, true, 10);
    due("9 below it", x.count(7), 2);
    x.put(1, 2);
    due("a stone lies there", x.count(7), 1);
    x.pillar(2);
    due("a pillar stands there", x.count(7), 0);
    CryptSums two = floor(2, 2, 2, 3);
    two.setSum(0, false, 4);
    due("1 and 3 in both", two.count(7), 0);
    CryptSums all = floor(2, 2, 1, 2);
    all.setSum(0, false, 1);
    all.setSum(3, true, 9);
    due("both cells", all.count(7), 2);
  }

  private static void countNoNumber() {
    CryptSums x = floor(3, 2);
    due("none", x.count(8), 0);
    x.setSum(0, false, 5);
    due("the row", x.count(8), 3);
    x.put(0, 1);
    due("not where a stone lies", x.count(8), 2);
    x.pillar(2);
    due("not where a pillar stands; 4 is left", x.count(8), 0);
    due("in one cell", x.count(7), 1);
    x.setSum(1, true, 17);
    due("4 across and 8 or 9 down", x.count(8), 1);
    CryptSums one = floor(2, 2, 1, 2, 3);
    one.setSum(0, true, 10);
    due("the only cell", one.count(8), 1);
    one.put(0, 9);
    due("with a stone", one.count(8), 0);
    CryptSums alike = floor(6, 6);
    alike.put(0, 1);
    alike.put(5, 1);
    due("beside two alike", alike.count(8), 4);
    CryptSums used = floor(6, 6);
    for (int i = 1; i < 6; i++) {
      used.put(i, i);
    }
    for (int i = 1; i < 5; i++) {
      used.put(6 * i, 5 + i);
    }
    due("all nine numbers lie beside or below", used.can(0), 0);
    due("one cell", used.count(8), 1);
  }

  private static void countRefusesWhat() {
    CryptSums x = floor(3, 2, 4);
    x.put(0, 9);
    for (int no : new int[] {LEAST, -2, -1, 9, 10, 16, MOST}) {
      noCell(x, "count(" + no + ")", () -> x.count(no));
    }
    due("count(0)", x.count(0), 6);
    due("count(8)", x.count(8), 0);
  }

  // Promise 11

  private static void waysOfOneAndNineCells() {
    CryptSums x = new CryptSums();
    CryptSums y = new CryptSums();
    for (int sum = 1; sum <= 45; sum++) {
      due("ways(1, " + sum + ")", x.ways(1, sum), sum <= 9 ? 1 : 0);
      due("ways(9, " + sum + ")", x.ways(9, sum), sum == 45 ? 1 : 0);
      due("ways(8, " + sum + ")", y.ways(8, sum), sum >= 36 && sum <= 44 ? 1 : 0);
    }
    noArgument(x, "ways(0, 45)", () -> x.ways(0, 45));
    noArgument(x, "ways(10, 45)", () -> x.ways(10, 45));
  }

  /** For each number of cells the least and the greatest sum have one way, the next ones none. */
  private static void waysToLeastAndMost() {
    CryptSums x = new CryptSums();
    for (int cells = 1; cells <= 9; cells++) {
      int c = cells;
      int least = cells * (cells + 1) / 2;
      int most = cells * (19 - cells) / 2;
      due("ways(" + c + ", " + least + ")", x.ways(c, least), 1);
      due("ways(" + c + ", " + most + ")", x.ways(c, most), 1);
      if (least > 1) {
        due("ways(" + c + ", " + (least - 1) + ")", x.ways(c, least - 1), 0);
        due("ways(" + c + ", 1)", x.ways(c, 1), 0);
      }
      if (most < 45) {
        due("ways(" + c + ", " + (most + 1) + ")", x.ways(c, most + 1), 0);
        due("ways(" + c + ", 45)", x.ways(c, 45), 0);
      }
      noArgument(x, "ways(" + c + ", 0)", () -> x.ways(c, 0));
      noArgument(x, "ways(" + c + ", 46)", () -> x.ways(c, 46));
    }
  }

  private static void waysWithoutOrder() {
    CryptSums x = new CryptSums();
    due("1 and 2", x.ways(2, 3), 1);
    due("1 and 3, not 2 and 2", x.ways(2, 4), 1);
    due("1 and 9 to 4 and 6, not 5 and 5", x.ways(2, 10), 4);
    due("2 and 9 to 5 and 6, none over 9", x.ways(2, 11), 4);
    due("8 and 9", x.ways(2, 17), 1);
    due("15 of three", x.ways(3, 15), 8);
    due("20 of four", x.ways(4, 20), 12);
    due("25 of five", x.ways(5, 25), 12);
    due("30 of six", x.ways(6, 30), 8);
    due("35 of seven", x.ways(7, 35), 4);
    x.put(0, 1);
    x.setSum(0, false, 20);
    due("whatever lies on the floor", x.ways(2, 3), 1);
    int[] sets = {9, 36, 84, 126, 126, 84, 36, 9, 1};
    for (int cells = 1; cells <= 9; cells++) {
      int all = 0;
      CryptSums y = new CryptSums();
      for (int sum = 1; sum <= 45; sum++) {
        all += y.ways(cells, sum);
      }
      due("all ways of " + cells, all, sets[cells - 1]);
    }
  }

  private static void waysRefusesCells() {
    for (int no : new int[] {LEAST, -9, -1, 0, 10, 11, 33, MOST}) {
      CryptSums x = new CryptSums();
      for (int sum : new int[] {1, 10, 45, 0, 46}) {
        noArgument(x, "ways(" + no + ", " + sum + ")", () -> x.ways(no, sum));
      }
      due("1 cell", x.ways(1, 9), 1);
      due("9 cells", x.ways(9, 45), 1);
    }
  }

  private static void waysRefusesSums() {
    for (int no : new int[] {LEAST, -45, -1, 0, 46, 47, 65, MOST}) {
      CryptSums x = new CryptSums();
      for (int cells = 1; cells <= 9; cells++) {
        int c = cells;
        noArgument(x, "ways(" + c + ", " + no + ")", () -> x.ways(c, no));
      }
      due("a sum 1", x.ways(1, 1), 1);
      due("a sum 45", x.ways(9, 45), 1);
    }
  }

  // Promise 12

  private static void forcedOfOneAndNineCells() {
    CryptSums x = new CryptSums();
    for (int sum = 1; sum <= 45; sum++) {
      due("forced(1, " + sum + ")", x.forced(1, sum), sum <= 9 ? 1 << sum : 0);
      due("forced(9, " + sum + ")", x.forced(9, sum), sum == 45 ? ALL : 0);
    }
    noArgument(x, "forced(0, 45)", () -> x.forced(0, 45));
    noArgument(x, "forced(10, 45)", () -> x.forced(10, 45));
  }

  private static void forcedToLeastAndMost() {
    CryptSums x = new CryptSums();
    for (int cells = 1; cells <= 9; cells++) {
      int c = cells;
      int low = 0;
      int high = 0;
      for (int number = 1; number <= cells; number++) {
        low |= 1 << number;
        high |= 1 << 10 - number;
      }
      due("the least of " + c, x.forced(c, c * (c + 1) / 2), low);
      due("the most of " + c, x.forced(c, c * (19 - c) / 2), high);
      noArgument(x, "forced(" + c + ", 0)", () -> x.forced(c, 0));
      noArgument(x, "forced(" + c + ", 46)", () -> x.forced(c, 46));
    }
  }

  private static void forcedInAllWays() {
    CryptSums x = new CryptSums();
    due("1 and 3 alone", x.forced(2, 4), bits(1, 3));
    due("1 and 4, 2 and 3", x.forced(2, 5), 0);
    due("7 and 9 alone", x.forced(2, 16), bits(7, 9));
    due("6 and 9, 7 and 8", x.forced(2, 15), 0);
    due("1, 2 and 4", x.forced(3, 7), bits(1, 2, 4));
    due("1 with 2 and 5 or 3 and 4", x.forced(3, 8), bits(1));
    due("9 with 5 and 8 or 6 and 7", x.forced(3, 22), bits(9));
    due("6, 8 and 9", x.forced(3, 23), bits(6, 8, 9));
    due("1 and 2 with 3 and 6 or 4 and 5", x.forced(4, 12), bits(1, 2));
    for (int out = 1; out <= 9; out++) {
      due("eight without " + out, x.forced(8, 45 - out), ALL - (1 << out));
    }
    x.put(0, 1);
    x.setSum(0, false, 20);
    due("whatever lies on the floor", x.forced(2, 3), bits(1, 2));
  }

  private static void forcedWithoutWay() {
    for (int cells = 1; cells <= 9; cells++) {
      CryptSums x = new CryptSums();
      for (int sum = 1; sum <= 45; sum++) {
        if (sum < cells * (cells + 1) / 2 || sum > cells * (19 - cells) / 2) {
          due("forced(" + cells + ", " + sum + ")", x.forced(cells, sum), 0);
        }
      }
    }
  }

  private static void forcedRefusesCells() {
    for (int no : new int[] {LEAST, -9, -1, 0, 10, 11, 33, MOST}) {
      CryptSums x = new CryptSums();
      for (int sum : new int[] {1, 10, 45, 0, 46}) {
        noArgument(x, "forced(" + no + ", " + sum + ")", () -> x.forced(no, sum));
      }
      due("1 cell", x.forced(1, 9), 512);
      due("9 cells", x.forced(9, 45), ALL);
    }
  }

  private static void forcedRefusesSums() {
    for (int no : new int[] {LEAST, -45, -1, 0, 46, 47, 65, MOST}) {
      CryptSums x = new CryptSums();
      for (int cells = 1; cells <= 9; cells++) {
        int c = cells;
        noArgument(x, "forced(" + c + ", " + no + ")", () -> x.forced(c, no));
      }
      due("a sum 1", x.forced(1, 1), 2);
      due("a sum 45", x.forced(9, 45), ALL);
    }
  }
}
