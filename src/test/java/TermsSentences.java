/** The sentences that come ahead of the promises, "What it is" and "Terms": a test for each boundary. */
public final class TermsSentences extends Checks {
  private static final String USE = "What it is";
  private static final String FLOOR = "Terms, Floor";
  private static final String CORRIDORS = "Terms, Corridors";
  private static final String FILLING = "Terms, Filling";
  private static final String THROWS = "Terms, exceptions";

  public static void main(String[] args) {
    holds(USE, "An object is used for at most 512 calls after it has been made",
        TermsSentences::lastCallIsAnswered);
    floors();
    corridors();
    numbersThatCanStand();
    fillings();
    exceptions();
    end("TermsSentences");
  }

  private static void floors() {
    holds(FLOOR, "It has w columns and h rows, each 2 to 6", TermsSentences::smallestAndLargestSides);
    holds(FLOOR, "(4 and 4, at first)", TermsSentences::sidesAtFirst);
    holds(FLOOR, "cells are numbered row by row, from 0: w * the row, and the column",
        TermsSentences::cellNumbers);
    holds(FLOOR, "Each cell is open (at first) or a pillar", TermsSentences::openAtFirst);
    holds(FLOOR, "an open one bears a stone with a number, 1 to 9, or none (at first)",
        TermsSentences::stonesOfOneToNine);
  }

  private static void corridors() {
    holds(CORRIDORS, "Open cells that lie side by side in a row, as many as there are between pillars or ends,"
        + " are a corridor across", TermsSentences::betweenEnds);
    holds(CORRIDORS, "in a column, a corridor down", TermsSentences::betweenPillars);
    holds(CORRIDORS, "So each open cell is in one of each", TermsSentences::aloneInBoth);
    holds(CORRIDORS, "A corridor has at most 6 cells", TermsSentences::sixCells);
    holds(CORRIDORS, "it has a sum, 1 to 45, or none (at first)", TermsSentences::sumsFromOneTo45);
    holds(CORRIDORS, "it is told at its first cell (the leftmost, the uppermost)", TermsSentences::firstCellTells);
    holds(CORRIDORS, "and goes with this cell", TermsSentences::goesWithFirstCell);
    holds(CORRIDORS, "if pillars come or go, a sum that was told at a cell holds, if the cell is the first one"
        + " of a corridor of that direction", TermsSentences::holdsAtFirstCell);
    holds(CORRIDORS, "otherwise it waits", TermsSentences::waitsElsewhere);
    holds(CORRIDORS, "A corridor is well, if no two of its stones are alike", TermsSentences::alike);
    holds(CORRIDORS, "and, if it has a sum", TermsSentences::wellWithoutSum);
    holds(CORRIDORS, "its cells without a stone can be filled so", TermsSentences::leastAndMostSums);
    holds(CORRIDORS, "there are as many different numbers", TermsSentences::asManyDifferent);
    holds(CORRIDORS, "none of which its stones have", TermsSentences::noneOfItsStones);
    holds(CORRIDORS, "that make the sum together with its stones", TermsSentences::fullWithSum);
  }

  private static void numbersThatCanStand() {
    holds(CORRIDORS, "A number can stand in an open cell without a stone, if both its corridors are well with it",
        TermsSentences::wellInBoth);
    holds(CORRIDORS, "(so none can, if one of them is not well already)", TermsSentences::noneIfNotWell);
  }

  private static void fillings() {
    holds(FILLING, "all open cells without a stone get one", TermsSentences::onlyEmptyOpenCells);
    holds(FILLING, "so that all corridors are well in the end", TermsSentences::allWellInTheEnd);
    holds(FILLING, "The ways to do so are looked for cell by cell, by their numbers", TermsSentences::cellByCell);
    holds(FILLING, "in each cell number by number, from 1 on", TermsSentences::numberByNumber);
    holds(FILLING, "each number that is looked at is a try", TermsSentences::eachNumberIsATry);
    holds(FILLING, "with one that can stand there, as all is then, the next cell is gone to",
        TermsSentences::asAllIsThen);
    holds(FILLING, "With the 4001st try it is over, and not known how many ways there are",
        TermsSentences::tryTooMany);
    holds(FILLING, "with the 100th way it is over, and 100 are told", TermsSentences::hundredthWay);
  }

  private static void exceptions() {
    holds(THROWS, "A method that throws an exception changes nothing", TermsSentences::throwsAndChangesNothing);
    holds(THROWS, "If several exceptions apply, the one that is named first is thrown",
        TermsSentences::firstNamedIsThrown);
  }

  // What it is

  private static void lastCallIsAnswered() {
    Ask[] asks = {
      x -> x.setFloor(6, 6), x -> x.pillar(15), x -> x.setSum(15, true, 45), x -> x.put(15, 9), x -> x.force(),
      x -> x.stone(15), x -> x.corridor(15, true, 0), x -> x.can(15), x -> x.count(4), x -> x.ways(2, 10),
      x -> x.forced(9, 45), x -> x.fillings(), x -> x.tries(), x -> x.solved(15), x -> x.next(),
      x -> x.would(15, 9), x -> x.mean(), x -> x.digest(), x -> answer(() -> x.put(16, 9))
    };
    for (int i = 0; i < asks.length; i++) {
      CryptSums used = new CryptSums();
      useFor511Calls(used);
      due("the 512th call, kind " + i, asks[i].of(used), asks[i].of(new CryptSums()));
    }
  }

  /** Leaves a new object as it was. */
  private static void useFor511Calls(CryptSums x) {
    for (int i = 0; i < 50; i++) {
      x.put(0, 9);
      x.would(1, 8);
      x.put(0, 0);
      x.pillar(15);
      x.fillings();
      x.pillar(15);
      x.setSum(0, true, 30);
      x.digest();
      x.setSum(0, true, 0);
      x.force();
    }
    for (int i = 0; i < 11; i++) {
      x.tries();
    }
  }

  // Floor

  private static void smallestAndLargestSides() {
    for (int w : new int[] {2, 6}) {
      for (int h : new int[] {2, 6}) {
        String where = w + " columns, " + h + " rows";
        CryptSums x = floor(w, h);
        counts(where, x, w * h, w, w * h, 0, w + h);
        corridor(where, x, w * h - 1, false, w * (h - 1), w);
        corridor(where, x, w * h - 1, true, w - 1, h);
        due(where + ", the last cell", x.put(w * h - 1, 5), 0);
        noCell(x, where + ", one cell more", () -> x.stone(w * h));
      }
    }
  }

  private static void sidesAtFirst() {
    CryptSums x = new CryptSums();
    counts("a new object", x, 16, 4);
    corridor("a new object", x, 15, false, 12, 4);
    corridor("a new object", x, 15, true, 3, 4);
    due("the last cell", x.stone(15), 0);
    noCell(x, "stone(16)", () -> x.stone(16));
  }

  private static void cellNumbers() {
    for (int w = 2; w <= 6; w++) {
      for (int h = 2; h <= 6; h++) {
        CryptSums x = floor(w, h);
        for (int row = 0; row < h; row++) {
          for (int column = 0; column < w; column++) {
            String where = "column " + column + " of " + w + ", row " + row + " of " + h;
            int cell = w * row + column;
            due(where + ", across from", x.corridor(cell, false, 0), w * row);
            due(where + ", down from", x.corridor(cell, true, 0), column);
          }
        }
        noCell(x, "no cell ahead of the first", () -> x.stone(-1));
        noCell(x, "no cell behind the last", () -> x.stone(x.count(0)));
      }
    }
  }

  private static void openAtFirst() {
    CryptSums x = new CryptSums();
    for (int cell = 0; cell < 16; cell++) {
      due("stone(" + cell + ") of a new object", x.stone(cell), 0);
    }
    due("open cells of a new object", x.count(2), 16);
    due("the first cell turned", x.pillar(0), true);
    due("the last cell turned", x.pillar(15), true);
    stones("of 4 columns", x, -1, 0, 0, 0, 0, 0, 0, 0, 0, 0, 0, 0, 0, 0, 0, -1);
  }

  private static void stonesOfOneToNine() {
    CryptSums x = floor(6, 6);
    for (int number = 1; number <= 9; number++) {
      due("none at first", x.stone(number), 0);
      x.put(number, number);
      due("stone " + number, x.stone(number), number);
    }
    counts("nine stones", x, 36, 6, 36, 9);
    noArgument(x, "a stone 10", () -> x.put(0, 10));
    noArgument(x, "a stone -1", () -> x.put(0, -1));
    due("still none", x.stone(0), 0);
  }

  // Corridors

  private static void betweenEnds() {
    CryptSums x = floor(3, 2);
    x.put(2, 5);
    x.put(3, 5);
    corridor("the end of a row", x, 2, false, 0, 3, 0, 1, 5, 1);
    corridor("the start of the next", x, 3, false, 3, 3, 0, 1, 5, 1);
    CryptSums y = floor(2, 3);
    y.put(4, 6);
    y.put(1, 6);
    corridor("the end of a column", y, 4, true, 0, 3, 0, 1, 6, 1);
    corridor("the start of the next", y, 1, true, 1, 3, 0, 1, 6, 1);
    CryptSums z = floor(3, 3, 2, 6);
    corridor("a pillar ends the row", z, 3, false, 3, 3);
    corridor("a pillar ends the column", z, 1, true, 1, 3);
    CryptSums last = floor(3, 3, 3, 1);
    corridor("a pillar begins the next row", last, 2, false, 2, 1);
    corridor("a pillar begins the next column", last, 6, true, 6, 1);
  }

  /** The cells of a row, or of a column, of a floor of 6 columns and 6 rows. */
  private static int[] line(boolean down, int number) {
    int[] cells = new int[6];
    for (int i = 0; i < 6; i++) {
      cells[i] = down ? 6 * i + number : 6 * number + i;
    }
    return cells;
  }

  /** Each way to set pillars into a row, and into a column. */
  private static void betweenPillars() {
    for (boolean down : DIRECTIONS) {
      for (int pillars = 0; pillars < 64; pillars++) {
        CryptSums x = floor(6, 6);
        int[] cells = line(down, 3);
        for (int place = 0; place < 6; place++) {
          if (isSet(pillars, place)) {
            x.pillar(cells[place]);
          }
        }
        for (int place = 0; place < 6; place++) {
          if (!isSet(pillars, place)) {
            partedAt(x, down, pillars, place);
          }
        }
      }
    }
  }

  private static boolean isSet(int pillars, int place) {
    return (pillars >> place & 1) == 1;
  }

  private static void partedAt(CryptSums x, boolean down, int pillars, int place) {
    int first = place;
    while (first > 0 && !isSet(pillars, first - 1)) {
      first--;
    }
    int last = place;
    while (last < 5 && !isSet(pillars, last + 1)) {
      last++;
    }
    int[] cells = line(down, 3);
    corridor("pillars " + pillars, x, cells[place], down, cells[first], last - first + 1);
  }

  private static void aloneInBoth() {
    CryptSums x = floor(3, 3, 1, 3, 5, 7);
    for (int cell : new int[] {0, 2, 4, 6, 8}) {
      corridor("alone across", x, cell, false, cell, 1, 0, 0, 0, 1);
      corridor("alone down", x, cell, true, cell, 1, 0, 0, 0, 1);
    }
    due("two corridors of each cell", x.count(4), 10);
    CryptSums y = floor(2, 2, 1, 2, 3);
    due("two of the only cell", y.count(4), 2);
    due("both are well", y.count(6), 2);
  }

  private static void sixCells() {
    CryptSums x = floor(6, 6);
    for (boolean down : DIRECTIONS) {
      for (int number = 0; number < 6; number++) {
        int[] cells = line(down, number);
        for (int cell : cells) {
          due("cells of a line of six", x.corridor(cell, down, 1), 6);
          due("its first one", x.corridor(cell, down, 0), cells[0]);
        }
      }
    }
    int[] row = line(false, 5);
    for (int i = 0; i < 6; i++) {
      x.put(row[i], i + 4);
    }
    x.setSum(row[0], false, 39);
    corridor("six stones", x, row[5], false, row[0], 6, 39, 6, 39, 1);
  }

  private static void sumsFromOneTo45() {
    for (boolean down : DIRECTIONS) {
      CryptSums x = floor(6, 6, 1, 6);
      due("none at first", x.corridor(0, down, 2), 0);
      due("and none told", x.setSum(0, down, 1), 0);
      corridor("a sum 1", x, 0, down, 0, 1, 1, 0, 0, 1);
      x.setSum(0, down, 45);
      corridor("a sum 45", x, 0, down, 0, 1, 45, 0, 0, 0);
      due("one has a sum", x.count(5), 1);
      noArgument(x, "a sum 46", () -> x.setSum(0, down, 46));
      noArgument(x, "a sum -1", () -> x.setSum(0, down, -1));
      x.setSum(0, down, 0);
      corridor("none again", x, 0, down, 0, 1, 0, 0, 0, 1);
      due("none has a sum", x.count(5), 0);
    }
  }

  private static void firstCellTells() {
    for (boolean down : DIRECTIONS) {
      CryptSums x = floor(6, 6);
      int[] cells = line(down, 4);
      x.setSum(cells[0], down, 30);
      for (int cell : cells) {
        corridor("told at the first", x, cell, down, cells[0], 6, 30);
      }
      due("not in the other direction", x.corridor(cells[0], !down, 2), 0);
      x.setSum(cells[0], down, 0);
      for (int i = 1; i < 6; i++) {
        x.setSum(cells[i], down, 2);
        corridor("told at another", x, cells[i], down, cells[0], 6, 0, 0, 0, 1);
      }
      due("none has a sum", x.count(5), 0);
      due("all are well", x.count(6), 12);
    }
  }

  private static void goesWithFirstCell() {
    for (boolean down : DIRECTIONS) {
      CryptSums x = floor(6, 6);
      int[] c = line(down, 2);
      x.setSum(c[0], down, 21);
      x.pillar(c[3]);
      corridor("three are left", x, c[2], down, c[0], 3, 21, 0, 0, 1);
      corridor("two are behind", x, c[5], down, c[4], 2, 0, 0, 0, 1);
      x.pillar(c[1]);
      corridor("one is left", x, c[0], down, c[0], 1, 21, 0, 0, 0);
      corridor("one is between", x, c[2], down, c[2], 1, 0, 0, 0, 1);
      x.pillar(c[1]);
      x.pillar(c[3]);
      corridor("six again", x, c[5], down, c[0], 6, 21, 0, 0, 1);
      x.pillar(c[0]);
      corridor("without its first", x, c[1], down, c[1], 5, 0, 0, 0, 1);
      x.pillar(c[0]);
      corridor("with its first again", x, c[1], down, c[0], 6, 21, 0, 0, 1);
    }
  }

  private static void holdsAtFirstCell() {
    for (boolean down : DIRECTIONS) {
      CryptSums x = floor(6, 6);
      int[] c = line(down, 1);
      x.setSum(c[2], down, 3);
      x.pillar(c[1]);
      corridor("a pillar comes ahead", x, c[4], down, c[2], 4, 3, 0, 0, 0);
      due("it has a sum now", x.count(5), 1);
      due("with which it is not well", x.can(c[2]), 0);
      x.pillar(c[4]);
      due("two cells make it", x.can(c[3]), bits(1, 2));
      x.pillar(c[3]);
      due("one cell makes it", x.can(c[2]), bits(3));
      CryptSums y = floor(6, 6);
      y.setSum(c[5], down, 9);
      y.pillar(c[5]);
      y.pillar(c[4]);
      due("told at a pillar", y.count(5), 0);
      y.pillar(c[5]);
      corridor("the last cell alone", y, c[5], down, c[5], 1, 9, 0, 0, 1);
      due("which is forced", y.can(c[5]), bits(9));
      CryptSums z = floor(6, 6);
      z.pillar(c[0]);
      z.setSum(c[1], down, 15);
      corridor("a pillar was ahead", z, c[3], down, c[1], 5, 15, 0, 0, 1);
      due("it holds for this direction alone", z.corridor(c[1], !down, 2), 0);
    }
  }

  private static void waitsElsewhere() {
    for (boolean down : DIRECTIONS) {
      CryptSums x = floor(6, 6);
      int[] c = line(down, 1);
      x.setSum(c[0], down, 10);
      x.setSum(c[3], down, 45);
      x.pillar(c[2]);
      corridor("two cells ahead", x, c[1], down, c[0], 2, 10, 0, 0, 1);
      corridor("three behind", x, c[5], down, c[3], 3, 45, 0, 0, 0);
      due("two sums hold", x.count(5), 2);
      x.pillar(c[2]);
      corridor("joined: the first one's holds", x, c[3], down, c[0], 6, 10, 0, 0, 0);
      due("the other waits", x.count(5), 1);
      x.setSum(c[0], down, 0);
      corridor("it waits still", x, c[3], down, c[0], 6, 0, 0, 0, 1);
      due("and lets all stand", x.can(c[3]), ALL);
      due("none holds", x.count(5), 0);
      x.pillar(c[2]);
      x.pillar(c[3]);
      corridor("a pillar on it: behind there is none", x, c[4], down, c[4], 2, 0, 0, 0, 1);
      x.pillar(c[3]);
      corridor("it holds again", x, c[4], down, c[3], 3, 45, 0, 0, 0);
      x.pillar(c[2]);
      due("what waits is told", x.setSum(c[3], down, 0), 45);
    }
  }

  private static void alike() {
    for (boolean down : DIRECTIONS) {
      int[] c = line(down, 0);
      for (int one = 0; one < 6; one++) {
        for (int other = one + 1; other < 6; other++) {
          CryptSums x = floor(6, 6);
          x.put(c[one], 9);
          x.put(c[other], 9);
          corridor("alike at " + one + " and " + other, x, c[0], down, c[0], 6, 0, 2, 18, 0);
          x.put(c[other], 8);
          due("unlike", x.corridor(c[5], down, 5), 1);
        }
      }
      CryptSums y = floor(6, 6);
      y.put(c[1], 1);
      y.put(c[4], 1);
      y.pillar(c[2]);
      due("alike, a pillar between", y.count(6), y.count(4));
      y.pillar(c[2]);
      due("alike, no pillar between", y.count(6), y.count(4) - 1);
      y.put(c[4], 0);
      y.put(line(down, 1)[2], 1);
      due("alike in two corridors", y.count(6), y.count(4));
    }
  }

  private static void wellWithoutSum() {
    for (boolean down : DIRECTIONS) {
      CryptSums x = floor(6, 6);
      int[] c = line(down, 5);
      due("no stone, no sum", x.corridor(c[0], down, 5), 1);
      for (int i = 0; i < 6; i++) {
        x.put(c[i], 9 - i);
        due(i + 1 + " stones, no sum", x.corridor(c[0], down, 5), 1);
      }
      x.setSum(c[0], down, 38);
      due("39 with a sum 38", x.corridor(c[0], down, 5), 0);
      x.setSum(c[0], down, 0);
      due("39 with none", x.corridor(c[0], down, 5), 1);
      x.setSum(c[1], down, 38);
      due("38 waits", x.corridor(c[0], down, 5), 1);
    }
  }

  private static void leastAndMostSums() {
    for (boolean down : DIRECTIONS) {
      for (int size = 1; size <= 6; size++) {
        int[] c = line(down, 2);
        CryptSums x = floor(6, 6);
        if (size < 6) {
          x.pillar(c[size]);
        }
        int least = size * (size + 1) / 2;
        int most = size * (19 - size) / 2;
        for (int sum = 1; sum <= 45; sum++) {
          x.setSum(c[0], down, sum);
          due(size + " cells, sum " + sum + ", well", x.corridor(c[0], down, 5),
              sum >= least && sum <= most ? 1 : 0);
        }
      }
    }
  }

  private static void wellOfThree(int sum, int want, int... stones) {
    for (boolean down : DIRECTIONS) {
      CryptSums x = floor(3, 3);
      x.setSum(0, down, sum);
      StringBuilder where = new StringBuilder("three cells, sum " + sum);
      for (int i = 0; i < stones.length; i++) {
        x.put(down ? 3 * i : i, stones[i]);
        where.append(", ").append(stones[i]);
      }
      due(where + ", well", x.corridor(0, down, 5), want);
    }
  }

  private static void asManyDifferent() {
    wellOfThree(5, 0);
    wellOfThree(6, 1);
    wellOfThree(24, 1);
    wellOfThree(25, 0);
    wellOfThree(9, 0, 9);
    wellOfThree(10, 0, 9);
    wellOfThree(11, 0, 9);
    wellOfThree(12, 1, 9);
    wellOfThree(9, 0, 1, 8);
    wellOfThree(10, 1, 7, 1);
    wellOfThree(24, 1, 8);
    wellOfThree(22, 0, 4);
    wellOfThree(21, 1, 4);
  }

  private static void noneOfItsStones() {
    wellOfThree(4, 0, 1);
    wellOfThree(5, 0, 1);
    wellOfThree(6, 1, 1);
    wellOfThree(5, 0, 2);
    wellOfThree(6, 1, 2);
    wellOfThree(26, 0, 9);
    wellOfThree(25, 0, 9);
    wellOfThree(24, 1, 9);
    wellOfThree(10, 0, 4, 3);
    wellOfThree(11, 0, 4, 3);
    wellOfThree(12, 1, 4, 3);
    wellOfThree(16, 1, 4, 3);
    wellOfThree(17, 0, 4, 3);
  }

  private static void fullWithSum() {
    wellOfThree(11, 0, 1, 2, 9);
    wellOfThree(12, 1, 1, 2, 9);
    wellOfThree(13, 0, 1, 2, 9);
    wellOfThree(24, 1, 9, 8, 7);
    wellOfThree(23, 0, 9, 8, 7);
    wellOfThree(45, 0, 9, 8, 7);
    wellOfThree(1, 0, 3, 2, 1);
    wellOfThree(12, 0, 4, 4, 4);
    wellOfThree(5, 0, 9);
    for (boolean down : DIRECTIONS) {
      CryptSums x = floor(2, 2, 1, 2);
      x.put(0, 7);
      for (int sum = 1; sum <= 45; sum++) {
        x.setSum(0, down, sum);
        due("one stone 7, sum " + sum + ", well", x.corridor(0, down, 5), sum == 7 ? 1 : 0);
      }
    }
  }

  // Numbers that can stand

  private static void wellInBoth() {
    CryptSums x = floor(2, 2);
    x.setSum(0, false, 3);
    due("1 and 2 across", x.can(0), bits(1, 2));
    x.setSum(0, true, 4);
    due("1 and 3 down: 1 in both", x.can(0), bits(1));
    x.setSum(0, true, 17);
    due("8 and 9 down: none in both", x.can(0), 0);
    corridor("yet across is well", x, 0, false, 0, 2, 3, 0, 0, 1);
    corridor("and down is well", x, 0, true, 0, 2, 17, 0, 0, 1);
    due("the cell beside", x.can(1), bits(1, 2));
    due("the cell below", x.can(2), bits(8, 9));
    CryptSums y = floor(3, 3);
    y.put(1, 4);
    y.put(3, 5);
    due("what lies beside and below", y.can(0), ALL & ~bits(4, 5));
    y.setSum(0, false, 7);
    due("3 are left for two", y.can(0), bits(1, 2));
    y.setSum(0, true, 8);
    due("and down as well", y.can(2), bits(1, 2));
    y.put(2, 2);
    due("the last one, which fits down too", y.can(0), bits(1));
    y.setSum(0, false, 15);
    due("9 is left across, none down", y.can(0), 0);
  }

  private static void noneIfNotWell() {
    for (boolean down : DIRECTIONS) {
      CryptSums x = floor(3, 3);
      int beside = down ? 3 : 1;
      int end = down ? 6 : 2;
      x.put(0, 5);
      x.put(beside, 5);
      due("two alike", x.can(end), 0);
      due("the other direction is well", x.corridor(end, !down, 5), 1);
      x.put(beside, 6);
      due("unlike", x.can(end), ALL & ~bits(5, 6));
      x.setSum(0, down, 11);
      due("nothing is left", x.can(end), 0);
      x.setSum(0, down, 12);
      due("1 is left", x.can(end), bits(1));
      x.setSum(0, down, 20);
      due("9 is left", x.can(end), bits(9));
      x.setSum(0, down, 21);
      due("too much is left", x.can(end), 0);
      x.setSum(0, down, 17);
      due("6 is left, which lies there", x.can(end), 0);
    }
  }

  // Filling

  private static void onlyEmptyOpenCells() {
    CryptSums x = floor(2, 2, 3);
    x.setSum(0, false, 3);
    x.setSum(0, true, 4);
    found("three open cells", x, 1, 9 + 9 + 9);
    solved("three open cells", x, 1, 2, 3, 0);
    x.put(1, 2);
    found("two without a stone", x, 1, 9 + 9);
    solved("two without a stone", x, 1, 2, 3, 0);
    x.put(0, 1);
    x.put(2, 3);
    found("none without a stone", x, 1, 0);
    CryptSums pillars = floor(2, 2, 0, 1, 2, 3);
    found("no open cell", pillars, 1, 0);
  }

  private static void allWellInTheEnd() {
    CryptSums x = floor(2, 2);
    x.setSum(0, false, 3);
    x.setSum(2, false, 3);
    due("the columns have no sums, but stones that are unlike", x.fillings(), 2);
    solved("1 and 2 above 2 and 1", x, 1, 2, 2, 1);
    x.setSum(1, true, 4);
    due("3 is in no row", x.fillings(), 0);
    x.setSum(1, true, 3);
    x.setSum(0, true, 3);
    due("all four tell the same", x.fillings(), 2);
    x.setSum(0, true, 2);
    found("one that is never well", x, 0, 0);
  }

  private static void cellByCell() {
    CryptSums x = floor(2, 2, 1, 2);
    x.setSum(3, false, 4);
    found("nine numbers first, one in the next", x, 9, 9 + 9 * 9);
    CryptSums y = floor(2, 2, 1, 2);
    y.setSum(0, false, 4);
    found("one number first, nine in the next", y, 9, 9 + 9);
    CryptSums z = floor(3, 2, 0, 2, 4, 5);
    z.setSum(1, false, 4);
    found("cell 1 ahead of cell 3 below its left", z, 9, 9 + 9);
    CryptSums last = floor(6, 6);
    for (int cell = 0; cell < 36; cell++) {
      if (cell != 0 && cell != 35) {
        last.pillar(cell);
      }
    }
    last.setSum(35, true, 4);
    found("the first and the last cell", last, 9, 9 + 9 * 9);
  }

  private static void numberByNumber() {
    CryptSums x = floor(2, 2);
    solved("1 ahead of 2", x, 1, 2, 2, 1);
    CryptSums y = floor(2, 2, 1, 2, 3);
    found("all nine", y, 9, 9);
    solved("from 1 on", y, 1);
    y.setSum(0, false, 9);
    found("9 as well", y, 1, 9);
    solved("9 as well", y, 9);
    CryptSums z = floor(3, 2);
    z.setSum(0, false, 24);
    z.setSum(3, false, 6);
    solved("the least of each in turn", z, 7, 8, 9, 1, 2, 3);
  }

  private static void eachNumberIsATry() {
    CryptSums x = floor(2, 2, 2, 3);
    x.setSum(0, false, 17);
    found("8 and 9, nine looked at behind each", x, 2, 9 + 2 * 9);
    x.put(0, 9);
    found("nine for the one", x, 1, 9);
    CryptSums y = floor(2, 2, 1, 2, 3);
    y.setSum(0, false, 3);
    y.setSum(0, true, 4);
    found("none can stand", y, 0, 9);
    CryptSums z = floor(2, 2, 1, 2);
    z.setSum(0, false, 3);
    z.setSum(0, true, 4);
    found("the next cell is not gone to", z, 0, 9);
    z.setSum(0, true, 3);
    z.setSum(3, false, 3);
    z.setSum(3, true, 4);
    found("none can stand in the next", z, 0, 9 + 9);
  }

  private static void asAllIsThen() {
    CryptSums x = floor(2, 2, 2, 3);
    found("not the number beside", x, 72, 9 + 9 * 9);
    x.setSum(0, false, 10);
    found("the rest of ten, but not 5 and 5", x, 8, 9 + 8 * 9);
    CryptSums y = floor(2, 2, 1);
    y.setSum(0, true, 4);
    y.setSum(2, false, 4);
    found("1 above 3 beside 1, 3 above 1 beside 3", y, 2, 9 + 2 * 9 + 2 * 9);
  }

  private static void tryTooMany() {
    CryptSums most = floor(4, 2, 3);
    most.setSum(0, true, 4);
    most.setSum(2, true, 14);
    most.setSum(4, false, 13);
    found("444 cells looked at", most, 38, 3996);
    CryptSums none = floor(4, 2, 0);
    none.setSum(2, true, 6);
    none.setSum(4, false, 22);
    none.setSum(4, true, 2);
    none.put(5, 5);
    found("444 cells looked at, no way", none, 0, 3996);
    CryptSums over = floor(2, 3);
    over.setSum(0, true, 13);
    over.setSum(4, false, 6);
    over.put(1, 4);
    found("445 cells would be looked at, with 94 ways", over, -1, 4001);
    CryptSums never = floor(3, 3, 1, 4, 7);
    never.setSum(2, true, 24);
    never.setSum(3, false, 8);
    never.setSum(8, false, 2);
    found("445 cells would be looked at, with no way", never, -1, 4001);
    CryptSums last = floor(3, 3);
    last.setSum(1, true, 22);
    last.setSum(2, true, 18);
    found("100 ways with 4000 tries", last, 100, 4000);
    CryptSums next = floor(3, 4, 9);
    next.setSum(0, true, 20);
    next.setSum(1, true, 19);
    next.setSum(2, true, 29);
    found("100 ways would take 4001 tries", next, -1, 4001);
    found("and again", next, -1, 4001);
  }

  private static void hundredthWay() {
    CryptSums less = floor(4, 2, 0, 6);
    less.setSum(1, false, 21);
    less.setSum(7, false, 9);
    less.put(4, 5);
    found("99 ways", less, 99, 1539);
    CryptSums three = floor(3, 3, 1, 3, 5, 6, 7, 8);
    found("729 ways, of which 100 are told", three, 100, (1 + 9 * 10) + (1 + 10 + 10 + 2));
    solved("the first of them", three, 1, 0, 1, 0, 1, 0, 0, 0, 0);
    CryptSums two = floor(3, 3, 1, 2, 3, 5, 6, 7, 8);
    found("81 ways are all told", two, 81, 90);
    CryptSums open = floor(2, 2);
    found("the open floor", open, 100, 146);
    found("and again", open, 100, 146);
  }

  // Exceptions

  /** With stones, a pillar that has sums, and sums that hold and wait. */
  private static CryptSums furnished() {
    CryptSums x = floor(3, 2, 5);
    x.setSum(0, false, 12);
    x.setSum(1, false, 7);
    x.setSum(5, true, 8);
    x.setSum(5, false, 45);
    x.setSum(1, true, 9);
    x.put(0, 3);
    x.put(4, 8);
    return x;
  }

  /** All that an object tells of itself: the digest has no solved(), next() and mean(). */
  private static String picture(CryptSums x) {
    StringBuilder told = new StringBuilder();
    told.append(x.next()).append(' ').append(x.mean());
    for (int cell = 0; cell < x.count(0); cell++) {
      told.append(' ').append(x.stone(cell)).append(' ').append(x.can(cell)).append(' ').append(x.solved(cell));
    }
    return told.append(' ').append(x.fillings()).append(' ').append(x.digest()).toString();
  }

  private static void changesNothing(String what, Class<?> exception, Ask ask) {
    CryptSums x = furnished();
    due(what + ", asked first of all", answer(() -> ask.of(x)), exception);
    String due = picture(furnished());
    due("after " + what, picture(x), due);
    due(what + ", asked then", answer(() -> ask.of(x)), exception);
    due("after " + what + ", asked then", picture(x), due);
  }

  private static void throwsAndChangesNothing() {
    for (int no : new int[] {LEAST, -1, 6, 7, MOST}) {
      Class<?> bounds = IndexOutOfBoundsException.class;
      changesNothing("pillar(" + no + ")", bounds, x -> x.pillar(no));
      changesNothing("setSum(" + no + ", false, 5)", bounds, x -> x.setSum(no, false, 5));
      changesNothing("setSum(" + no + ", true, 5)", bounds, x -> x.setSum(no, true, 5));
      changesNothing("put(" + no + ", 5)", bounds, x -> x.put(no, 5));
      changesNothing("stone(" + no + ")", bounds, x -> x.stone(no));
      changesNothing("corridor(" + no + ", false, 0)", bounds, x -> x.corridor(no, false, 0));
      changesNothing("corridor(0, true, " + no + ")", bounds, x -> x.corridor(0, true, no));
      changesNothing("can(" + no + ")", bounds, x -> x.can(no));
      changesNothing("solved(" + no + ")", bounds, x -> x.solved(no));
      changesNothing("would(" + no + ", 5)", bounds, x -> x.would(no, 5));
    }
    for (int no : new int[] {LEAST, -1, 9, MOST}) {
      changesNothing("count(" + no + ")", IndexOutOfBoundsException.class, x -> x.count(no));
    }
    for (int no : new int[] {LEAST, -1, 46, MOST}) {
      Class<?> argument = IllegalArgumentException.class;
      changesNothing("setFloor(" + no + ", 3)", argument, x -> x.setFloor(no, 3));
      changesNothing("setFloor(4, " + no + ")", argument, x -> x.setFloor(4, no));
      changesNothing("setSum(0, false, " + no + ")", argument, x -> x.setSum(0, false, no));
      changesNothing("setSum(5, true, " + no + ")", argument, x -> x.setSum(5, true, no));
      changesNothing("put(0, " + no + ")", argument, x -> x.put(0, no));
      changesNothing("ways(" + no + ", 5)", argument, x -> x.ways(no, 5));
      changesNothing("ways(2, " + no + ")", argument, x -> x.ways(2, no));
      changesNothing("forced(" + no + ", 5)", argument, x -> x.forced(no, 5));
      changesNothing("forced(2, " + no + ")", argument, x -> x.forced(2, no));
      changesNothing("would(0, " + no + ")", argument, x -> x.would(0, no));
      changesNothing("would(1, " + no + ")", argument, x -> x.would(1, no));
    }
    for (int number = 0; number <= 9; number++) {
      int n = number;
      changesNothing("put(5, " + n + ")", IllegalStateException.class, x -> x.put(5, n));
      if (n > 0) {
        changesNothing("would(5, " + n + ")", IllegalStateException.class, x -> x.would(5, n));
      }
    }
  }

  private static void firstNamedIsThrown() {
    for (int cell : new int[] {LEAST, -1, 6, MOST}) {
      for (int no : new int[] {LEAST, -1, 46, MOST}) {
        Class<?> bounds = IndexOutOfBoundsException.class;
        changesNothing("setSum(" + cell + ", false, " + no + ")", bounds, x -> x.setSum(cell, false, no));
        changesNothing("setSum(" + cell + ", true, " + no + ")", bounds, x -> x.setSum(cell, true, no));
        changesNothing("put(" + cell + ", " + no + ")", bounds, x -> x.put(cell, no));
        changesNothing("would(" + cell + ", " + no + ")", bounds, x -> x.would(cell, no));
      }
      changesNothing("put(" + cell + ", 10)", IndexOutOfBoundsException.class, x -> x.put(cell, 10));
      changesNothing("would(" + cell + ", 0)", IndexOutOfBoundsException.class, x -> x.would(cell, 0));
    }
    for (int no : new int[] {LEAST, -1, 10, MOST}) {
      changesNothing("put(5, " + no + ")", IllegalArgumentException.class, x -> x.put(5, no));
      changesNothing("would(5, " + no + ")", IllegalArgumentException.class, x -> x.would(5, no));
    }
    changesNothing("would(5, 0)", IllegalArgumentException.class, x -> x.would(5, 0));
  }
}
