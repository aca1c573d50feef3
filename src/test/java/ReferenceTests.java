import java.util.ArrayList;
import java.util.HashMap;
import java.util.List;
import java.util.Map;

/**
 * Runs of calls on fresh objects, each answer compared with that of a slow model, which follows the
 * document word by word (it walks the corridors anew for each question and tries numbers out).
 */
public final class ReferenceTests {
  private static final int RUNS = 300;

  /** With the digest in the end, an object is asked all the 512 times for which it is promised. */
  private static final int CALLS = 511;
  private static int wrong = 0;

  public static void main(String[] args) {
    for (int seed = 1; seed <= RUNS; seed++) {
      new Run(seed).go();
      if (wrong > 20) {
        break;
      }
    }
    comparePartitions();
    System.out.println(wrong == 0 ? "ReferenceTests: all as due" : "ReferenceTests: " + wrong + " wrong");
    if (wrong != 0) {
      System.exit(1);
    }
  }

  static void compare(String where, Object got, Object due) {
    if (!got.equals(due)) {
      wrong++;
      System.out.println(where + " answered " + got + ", due is " + due);
    }
  }

  private static void comparePartitions() {
    Model m = new Model();
    for (int cells = -1; cells <= 11; cells++) {
      CryptSums x = new CryptSums();
      for (int sum = -1; sum <= 47; sum++) {
        int c = cells;
        int s = sum;
        compare("ways(" + c + ", " + s + ")", answer(() -> x.ways(c, s)), answer(() -> m.ways(c, s)));
        compare("forced(" + c + ", " + s + ")", answer(() -> x.forced(c, s)), answer(() -> m.forced(c, s)));
      }
    }
    CryptSums x = new CryptSums();
    for (int edge : new int[] {Integer.MIN_VALUE, -1, Integer.MAX_VALUE}) {
      compare("ways(" + edge + ", 5)", answer(() -> x.ways(edge, 5)), "IllegalArgumentException");
      compare("ways(2, " + edge + ")", answer(() -> x.ways(2, edge)), "IllegalArgumentException");
      compare("forced(" + edge + ", 5)", answer(() -> x.forced(edge, 5)), "IllegalArgumentException");
      compare("forced(2, " + edge + ")", answer(() -> x.forced(2, edge)), "IllegalArgumentException");
    }
  }

  interface Call {
    Object call();
  }

  static Object answer(Call call) {
    try {
      return call.call();
    } catch (RuntimeException e) {
      return e.getClass().getSimpleName();
    }
  }

  /** The same numbers in each run of the tests. */
  static final class Dice {
    private long state;

    Dice(long seed) {
      state = seed * 0x9E3779B97F4A7C15L + 12345;
    }

    int below(int n) {
      state = state * 6364136223846793005L + 1442695040888963407L;
      return (int) ((state >>> 33) % n);
    }

    int from(int least, int most) {
      return least + below(most - least + 1);
    }
  }

  /** One object and one model, and calls on both. */
  static final class Run {
    private final int seed;
    private final Dice dice;
    private final CryptSums x = new CryptSums();
    private final Model m = new Model();
    private int calls = 0;

    Run(int seed) {
      this.seed = seed;
      dice = new Dice(seed);
    }

    void go() {
      if (dice.below(5) > 0) {
        layPuzzle();
      }
      while (calls < CALLS) {
        step(dice.below(24));
      }
      tell("digest()", () -> x.digest(), () -> m.digest());
    }

    private void tell(String call, Call got, Call due) {
      calls++;
      compare("seed " + seed + " call " + calls + " " + call, answer(got), answer(due));
    }

    private int cell() {
      int odd = dice.below(40);
      if (odd == 0) {
        return Integer.MIN_VALUE;
      }
      if (odd == 1) {
        return Integer.MAX_VALUE;
      }
      return odd < 5 ? dice.from(-2, m.w * m.h + 1) : dice.below(m.w * m.h);
    }

    private void setFloor(int w, int h) {
      tell("setFloor(" + w + ", " + h + ")", () -> x.setFloor(w, h), () -> m.setFloor(w, h));
    }

    private void pillar(int cell) {
      tell("pillar(" + cell + ")", () -> x.pillar(cell), () -> m.pillar(cell));
    }

    private void setSum(int cell, boolean down, int sum) {
      tell("setSum(" + cell + ", " + down + ", " + sum + ")",
          () -> x.setSum(cell, down, sum), () -> m.setSum(cell, down, sum));
    }

    private void put(int cell, int number) {
      tell("put(" + cell + ", " + number + ")", () -> x.put(cell, number), () -> m.put(cell, number));
    }

    /** A floor with the sums of one filling, of which a part of the stones is left. */
    private void layPuzzle() {
      int w = dice.from(2, 6);
      int h = dice.from(2, 6);
      setFloor(w, h);
      int pillarsOfTen = dice.below(6);
      for (int cell = 0; cell < w * h; cell++) {
        if (dice.below(10) < pillarsOfTen) {
          pillar(cell);
        }
      }
      int[] filling = randomFilling();
      int sumsOfTen = dice.from(4, 10);
      int stonesOfTen = dice.below(8);
      for (int cell = 0; cell < w * h; cell++) {
        if (m.pillar[cell]) {
          continue;
        }
        for (int d = 0; d < 2; d++) {
          List<Integer> cells = m.corridorOf(cell, d == 1);
          if (cells.get(0) == cell && dice.below(10) < sumsOfTen) {
            int sum = 0;
            for (int c : cells) {
              sum += filling[c];
            }
            setSum(cell, d == 1, Math.min(45, sum));
          }
        }
        if (dice.below(10) < stonesOfTen) {
          put(cell, filling[cell]);
        }
      }
    }

    private int[] randomFilling() {
      int[] filling = new int[m.w * m.h];
      for (int cell = 0; cell < filling.length; cell++) {
        for (int attempt = 0; attempt < 40; attempt++) {
          filling[cell] = dice.from(1, 9);
          if (m.pillar[cell] || isUnlike(filling, cell)) {
            break;
          }
        }
      }
      return filling;
    }

    private boolean isUnlike(int[] filling, int cell) {
      for (int d = 0; d < 2; d++) {
        for (int c : m.corridorOf(cell, d == 1)) {
          if (c != cell && filling[c] == filling[cell]) {
            return false;
          }
        }
      }
      return true;
    }

    private void step(int what) {
      int cell = cell();
      boolean down = dice.below(2) == 1;
      int number = dice.below(12) == 0 ? dice.from(-2, 12) : dice.from(0, 9);
      switch (what) {
        case 0:
          if (dice.below(6) == 0) {
            setFloor(dice.from(1, 7), dice.from(1, 7));
          }
          break;
        case 1:
          if (dice.below(2) == 0) {
            pillar(cell);
          }
          break;
        case 2:
          setSum(cell, down, dice.below(3) == 0 ? dice.from(-1, 46) : dice.from(0, 20));
          break;
        case 3:
        case 4:
          put(cell, number);
          break;
        case 5:
          put(cell, 0);
          break;
        case 6:
          if (dice.below(3) == 0) {
            tell("force()", () -> x.force(), () -> m.force());
          }
          break;
        case 7:
          tell("stone(" + cell + ")", () -> x.stone(cell), () -> m.stone(cell));
          break;
        case 8:
        case 9:
        case 10: {
          int asked = dice.from(-1, 6);
          tell("corridor(" + cell + ", " + down + ", " + asked + ")",
              () -> x.corridor(cell, down, asked), () -> m.corridor(cell, down, asked));
          break;
        }
        case 11:
        case 12:
          tell("can(" + cell + ")", () -> x.can(cell), () -> m.can(cell));
          break;
        case 13:
        case 14: {
          int asked = dice.from(-1, 9);
          tell("count(" + asked + ")", () -> x.count(asked), () -> m.count(asked));
          break;
        }
        case 15:
          tell("fillings()", () -> x.fillings(), () -> m.fillings());
          break;
        case 16:
          tell("tries()", () -> x.tries(), () -> m.tries());
          break;
        case 17:
        case 18:
          tell("solved(" + cell + ")", () -> x.solved(cell), () -> m.solved(cell));
          break;
        case 19:
          tell("next()", () -> x.next(), () -> m.next());
          break;
        case 20:
        case 21:
          tell("would(" + cell + ", " + number + ")", () -> x.would(cell, number), () -> m.would(cell, number));
          break;
        case 22:
          tell("mean()", () -> x.mean(), () -> m.mean());
          break;
        default:
          tell("digest()", () -> x.digest(), () -> m.digest());
          break;
      }
    }
  }

  static final class Model {
    int w = 4;
    int h = 4;
    boolean[] pillar = new boolean[16];
    int[] stone = new int[16];
    int[][] sum = new int[2][16];
    int limit = 4001;
    int looked;
    int ways;
    boolean over;
    int[] firstWay;
    private static final Map<Integer, Boolean> PARTED = new HashMap<>();

    private void needCell(int cell) {
      if (cell < 0 || cell >= w * h) {
        throw new IndexOutOfBoundsException();
      }
    }

    private static void need(boolean holds) {
      if (!holds) {
        throw new IllegalArgumentException();
      }
    }

    private void needOpen(int cell) {
      if (pillar[cell]) {
        throw new IllegalStateException();
      }
    }

    int setFloor(int columns, int lines) {
      need(columns >= 2 && columns <= 6 && lines >= 2 && lines <= 6);
      w = columns;
      h = lines;
      pillar = new boolean[w * h];
      stone = new int[w * h];
      sum = new int[2][w * h];
      return w * h;
    }

    boolean pillar(int cell) {
      needCell(cell);
      pillar[cell] = !pillar[cell];
      stone[cell] = 0;
      return pillar[cell];
    }

    int setSum(int cell, boolean down, int s) {
      needCell(cell);
      need(s >= 0 && s <= 45);
      int before = sum[down ? 1 : 0][cell];
      sum[down ? 1 : 0][cell] = s;
      return before;
    }

    int put(int cell, int number) {
      needCell(cell);
      need(number >= 0 && number <= 9);
      needOpen(cell);
      int before = stone[cell];
      stone[cell] = number;
      return before;
    }

    int force() {
      int come = 0;
      while (true) {
        int cell = -1;
        for (int c = w * h - 1; c >= 0; c--) {
          if (numbers(c).size() == 1) {
            cell = c;
          }
        }
        if (cell < 0) {
          return come;
        }
        stone[cell] = numbers(cell).get(0);
        come++;
      }
    }

    int stone(int cell) {
      needCell(cell);
      return pillar[cell] ? -1 : stone[cell];
    }

    /** The neighbour so many steps on, or -1 where the floor ends. */
    private int beside(int cell, boolean down, int steps) {
      int column = cell % w + (down ? 0 : steps);
      int line = cell / w + (down ? steps : 0);
      return column < 0 || column >= w || line < 0 || line >= h ? -1 : line * w + column;
    }

    List<Integer> corridorOf(int cell, boolean down) {
      List<Integer> cells = new ArrayList<>();
      for (int c = cell; c >= 0 && !pillar[c]; c = beside(c, down, -1)) {
        cells.add(0, c);
      }
      for (int c = beside(cell, down, 1); c >= 0 && !pillar[c]; c = beside(c, down, 1)) {
        cells.add(c);
      }
      return cells;
    }

    private int sumOf(List<Integer> cells, boolean down) {
      return sum[down ? 1 : 0][cells.get(0)];
    }

    private boolean isWell(int cell, boolean down) {
      List<Integer> cells = corridorOf(cell, down);
      List<Integer> have = new ArrayList<>();
      int together = 0;
      for (int c : cells) {
        if (stone[c] > 0) {
          if (have.contains(stone[c])) {
            return false;
          }
          have.add(stone[c]);
          together += stone[c];
        }
      }
      int s = sumOf(cells, down);
      int used = 0;
      for (int number : have) {
        used |= 1 << number;
      }
      return s == 0 || s >= together && parts(used, cells.size() - have.size(), s - together);
    }

    private static boolean parts(int used, int cells, int missing) {
      int key = (used * 10 + cells) * 64 + missing;
      Boolean known = PARTED.get(key);
      if (known == null) {
        known = canPart(1, used, cells, missing);
        PARTED.put(key, known);
      }
      return known;
    }

    private static boolean canPart(int from, int used, int cells, int missing) {
      if (cells == 0 || missing <= 0) {
        return cells == 0 && missing == 0;
      }
      for (int number = from; number <= 9; number++) {
        if ((used >> number & 1) == 0 && canPart(number + 1, used, cells - 1, missing - number)) {
          return true;
        }
      }
      return false;
    }

    private boolean canStand(int cell, int number) {
      stone[cell] = number;
      boolean stands = isWell(cell, false) && isWell(cell, true);
      stone[cell] = 0;
      return stands;
    }

    private List<Integer> numbers(int cell) {
      List<Integer> numbers = new ArrayList<>();
      if (pillar[cell] || stone[cell] != 0 || !isWell(cell, false) || !isWell(cell, true)) {
        return numbers;
      }
      for (int number = 1; number <= 9; number++) {
        if (canStand(cell, number)) {
          numbers.add(number);
        }
      }
      return numbers;
    }

    int corridor(int cell, boolean down, int what) {
      needCell(cell);
      if (what < 0 || what > 5) {
        throw new IndexOutOfBoundsException();
      }
      if (pillar[cell]) {
        return -1;
      }
      List<Integer> cells = corridorOf(cell, down);
      int stones = 0;
      int together = 0;
      for (int c : cells) {
        stones += stone[c] > 0 ? 1 : 0;
        together += stone[c];
      }
      int[] told = {
        cells.get(0), cells.size(), sumOf(cells, down), stones, together, isWell(cell, down) ? 1 : 0
      };
      return told[what];
    }

    int can(int cell) {
      needCell(cell);
      int bits = 0;
      for (int number : numbers(cell)) {
        bits += (int) Math.pow(2, number);
      }
      return bits;
    }

    int count(int what) {
      if (what < 0 || what > 8) {
        throw new IndexOutOfBoundsException();
      }
      int[] counts = new int[9];
      counts[0] = w * h;
      counts[1] = w;
      for (int cell = 0; cell < w * h; cell++) {
        if (pillar[cell]) {
          continue;
        }
        counts[2]++;
        counts[3] += stone[cell] > 0 ? 1 : 0;
        for (int d = 0; d < 2; d++) {
          if (corridorOf(cell, d == 1).get(0) == cell) {
            counts[4]++;
            counts[5] += sum[d][cell] > 0 ? 1 : 0;
            counts[6] += isWell(cell, d == 1) ? 1 : 0;
          }
        }
        counts[7] += numbers(cell).size() == 1 ? 1 : 0;
        counts[8] += stone[cell] == 0 && numbers(cell).isEmpty() ? 1 : 0;
      }
      return counts[what];
    }

    int ways(int cells, int s) {
      need(cells >= 1 && cells <= 9);
      need(s >= 1 && s <= 45);
      return partitions(1, cells, s).size();
    }

    int forced(int cells, int s) {
      need(cells >= 1 && cells <= 9);
      need(s >= 1 && s <= 45);
      List<Integer> partitions = partitions(1, cells, s);
      if (partitions.isEmpty()) {
        return 0;
      }
      int shared = -1;
      for (int p : partitions) {
        shared &= p;
      }
      return shared;
    }

    private static List<Integer> partitions(int from, int cells, int s) {
      List<Integer> found = new ArrayList<>();
      if (cells == 0) {
        if (s == 0) {
          found.add(0);
        }
        return found;
      }
      for (int number = from; number <= 9; number++) {
        for (int rest : partitions(number + 1, cells - 1, s - number)) {
          found.add(rest + (1 << number));
        }
      }
      return found;
    }

    void look() {
      looked = 0;
      ways = 0;
      over = false;
      firstWay = null;
      for (int cell = 0; cell < w * h; cell++) {
        if (!pillar[cell] && (!isWell(cell, false) || !isWell(cell, true))) {
          return;
        }
      }
      lookFrom(0);
      if (looked == limit) {
        ways = -1;
        firstWay = null;
      }
    }

    private void lookFrom(int from) {
      int cell = from;
      while (cell < w * h && (pillar[cell] || stone[cell] > 0)) {
        cell++;
      }
      if (cell == w * h) {
        ways++;
        if (firstWay == null) {
          firstWay = stone.clone();
        }
        over = ways == 100;
        return;
      }
      for (int number = 1; number <= 9; number++) {
        looked++;
        if (looked == limit) {
          over = true;
          return;
        }
        if (canStand(cell, number)) {
          stone[cell] = number;
          lookFrom(cell + 1);
          stone[cell] = 0;
        }
        if (over) {
          return;
        }
      }
    }

    int fillings() {
      look();
      return ways;
    }

    int tries() {
      look();
      return looked;
    }

    int solved(int cell) {
      needCell(cell);
      look();
      return firstWay == null ? 0 : firstWay[cell];
    }

    int next() {
      int best = -1;
      for (int cell = 0; cell < w * h; cell++) {
        if (!pillar[cell] && stone[cell] == 0
            && (best < 0 || numbers(cell).size() < numbers(best).size())) {
          best = cell;
        }
      }
      return best;
    }

    int would(int cell, int number) {
      needCell(cell);
      need(number >= 1 && number <= 9);
      needOpen(cell);
      int before = stone[cell];
      stone[cell] = number;
      int told = fillings();
      stone[cell] = before;
      return told;
    }

    double mean() {
      int cells = 0;
      int numbers = 0;
      for (int cell = 0; cell < w * h; cell++) {
        if (!pillar[cell] && stone[cell] == 0) {
          cells++;
          numbers += numbers(cell).size();
        }
      }
      return cells == 0 ? 0 : (double) numbers / cells;
    }

    long digest() {
      List<Integer> told = new ArrayList<>();
      for (int what = 0; what <= 8; what++) {
        told.add(count(what));
      }
      for (int cell = 0; cell < w * h; cell++) {
        told.add(stone(cell));
        told.add(sum[0][cell]);
        told.add(sum[1][cell]);
        told.add(can(cell));
        for (int d = 0; d < 2; d++) {
          for (int what = 0; what <= 5; what++) {
            told.add(corridor(cell, d == 1, what));
          }
        }
      }
      told.add(fillings());
      told.add(tries());
      long d = 1663;
      for (int number : told) {
        d = d * 31 + number;
      }
      return d;
    }
  }
}
