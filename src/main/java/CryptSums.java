/** Crossing corridors of a crypt: stones with told sums, and in which ways the floor can be filled. */
public final class CryptSums {
  private static final int LEAST_SIDE = 2;
  private static final int MOST_SIDE = 6;
  private static final int FIRST_SIDE = 4;
  private static final int MOST_CELLS = 36;
  private static final int MOST_NUMBER = 9;
  private static final int MOST_SUM = 45;
  private static final int MOST_FILLINGS = 100;
  private static final int MOST_TRIES = 4000;

  /** The numbers 1 to 9 as can() tells them; every set of numbers in this file is held so. */
  private static final int ALL_NUMBERS = 1022;

  private static final int PILLAR = -1;
  private static final int NO_CELL = -1;

  private static final int COUNTS = 9;
  private static final int CORRIDOR_WORDS = 6;
  private static final long DIGEST_START = 1663L;
  private static final long DIGEST_FACTOR = 31L;

  private final Floor floor;
  private final Search search;

  public CryptSums() {
    floor = new Floor();
    search = new Search(floor);
  }

  // ---- the floor

  public int setFloor(int w, int h) throws IllegalArgumentException {
    if (w < LEAST_SIDE || w > MOST_SIDE || h < LEAST_SIDE || h > MOST_SIDE) {
      throw new IllegalArgumentException("a side is not 2 to 6");
    }
    search.forget();
    floor.clear(w, h);
    return floor.cells();
  }

  public boolean pillar(int cell) throws IndexOutOfBoundsException {
    checkCell(cell);
    search.forget();
    floor.turnPillar(cell);
    return floor.isPillar(cell);
  }

  public int setSum(int cell, boolean down, int sum)
      throws IndexOutOfBoundsException, IllegalArgumentException {
    checkCell(cell);
    if (sum < 0 || sum > MOST_SUM) {
      throw new IllegalArgumentException("the sum is not 0 to 45");
    }
    search.forget();
    return floor.corridors(down).tellSum(cell, sum);
  }

  public int put(int cell, int number)
      throws IndexOutOfBoundsException, IllegalArgumentException, IllegalStateException {
    checkCell(cell);
    if (number < 0 || number > MOST_NUMBER) {
      throw new IllegalArgumentException("the number is not 0 to 9");
    }
    checkOpen(cell);
    int before = floor.stoneAt(cell);
    search.forget();
    floor.lay(cell, number);
    return before;
  }

  public int force() {
    search.forget();
    for (int come = 0; come < MOST_CELLS; come++) {
      int cell = floor.firstSingle();
      if (cell == NO_CELL) {
        return come;
      }
      floor.lay(cell, smallestOf(floor.numbersFor(cell)));
    }
    return MOST_CELLS;
  }

  // ---- what is there

  public int stone(int cell) throws IndexOutOfBoundsException {
    checkCell(cell);
    return floor.stoneAt(cell);
  }

  public int corridor(int cell, boolean down, int what) throws IndexOutOfBoundsException {
    checkCell(cell);
    if (what < 0 || what >= CORRIDOR_WORDS) {
      throw new IndexOutOfBoundsException("nothing of a corridor has this number");
    }
    return floor.corridors(down).tell(cell, what);
  }

  public int can(int cell) throws IndexOutOfBoundsException {
    checkCell(cell);
    return floor.numbersFor(cell);
  }

  public int count(int what) throws IndexOutOfBoundsException {
    if (what < 0 || what >= COUNTS) {
      throw new IndexOutOfBoundsException("no count has this number");
    }
    return floor.tally(what);
  }

  // ---- partitions

  public int ways(int cells, int sum) throws IllegalArgumentException {
    checkPartition(cells, sum);
    int found = 0;
    for (int set = 0; set <= ALL_NUMBERS; set += 2) {
      if (isPartition(set, cells, sum)) {
        found++;
      }
    }
    return found;
  }

  public int forced(int cells, int sum) throws IllegalArgumentException {
    checkPartition(cells, sum);
    int found = 0;
    int shared = ALL_NUMBERS;
    for (int set = 0; set <= ALL_NUMBERS; set += 2) {
      if (isPartition(set, cells, sum)) {
        found++;
        shared &= set;
      }
    }
    return found == 0 ? 0 : shared;
  }

  // ---- what would be

  public int fillings() {
    search.refresh();
    return search.told();
  }

  public int tries() {
    search.refresh();
    return search.tried();
  }

  public int solved(int cell) throws IndexOutOfBoundsException {
    checkCell(cell);
    if (floor.isPillar(cell)) {
      return 0;
    }
    search.refresh();
    return search.firstFilling(cell);
  }

  public int next() {
    return floor.tightest();
  }

  public int would(int cell, int number)
      throws IndexOutOfBoundsException, IllegalArgumentException, IllegalStateException {
    checkCell(cell);
    if (number < 1 || number > MOST_NUMBER) {
      throw new IllegalArgumentException("the number is not 1 to 9");
    }
    checkOpen(cell);
    int before = floor.stoneAt(cell);
    floor.lay(cell, number);
    search.forget();
    search.refresh();
    int told = search.told();
    floor.lay(cell, before);
    search.forget();
    return told;
  }

  public double mean() {
    return floor.meanOfNumbers();
  }

  public long digest() {
    long d = DIGEST_START;
    for (int what = 0; what < COUNTS; what++) {
      d = stir(d, floor.tally(what));
    }
    for (int cell = 0; cell < floor.cells(); cell++) {
      d = stirCell(d, cell);
    }
    search.refresh();
    d = stir(d, search.told());
    return stir(d, search.tried());
  }

  private long stirCell(long start, int cell) {
    long d = stir(start, floor.stoneAt(cell));
    d = stir(d, floor.corridors(false).toldAt(cell));
    d = stir(d, floor.corridors(true).toldAt(cell));
    d = stir(d, floor.numbersFor(cell));
    d = stirCorridor(d, floor.corridors(false), cell);
    return stirCorridor(d, floor.corridors(true), cell);
  }

  private static long stirCorridor(long start, Corridors corridors, int cell) {
    long d = start;
    for (int what = 0; what < CORRIDOR_WORDS; what++) {
      d = stir(d, corridors.tell(cell, what));
    }
    return d;
  }

  private static long stir(long d, int x) {
    return d * DIGEST_FACTOR + x;
  }

  private void checkCell(int cell) throws IndexOutOfBoundsException {
    if (!floor.has(cell)) {
      throw new IndexOutOfBoundsException("no such cell");
    }
  }

  private void checkOpen(int cell) throws IllegalStateException {
    if (floor.isPillar(cell)) {
      throw new IllegalStateException("the cell is a pillar");
    }
  }

  private static void checkPartition(int cells, int sum) throws IllegalArgumentException {
    if (cells < 1 || cells > MOST_NUMBER) {
      throw new IllegalArgumentException("there are not 1 to 9 cells");
    }
    if (sum < 1 || sum > MOST_SUM) {
      throw new IllegalArgumentException("the sum is not 1 to 45");
    }
  }

  private static boolean isPartition(int set, int cells, int sum) {
    return Integer.bitCount(set) == cells && totalOf(set) == sum;
  }

  private static int totalOf(int set) {
    int total = 0;
    for (int number = 1; number <= MOST_NUMBER; number++) {
      if (hasNumber(set, number)) {
        total += number;
      }
    }
    return total;
  }

  private static int smallestOf(int set) {
    for (int number = 1; number <= MOST_NUMBER; number++) {
      if (hasNumber(set, number)) {
        return number;
      }
    }
    return 0;
  }

  private static boolean hasNumber(int set, int number) {
    return (set & 1 << number) != 0;
  }

  /** Rows are read and written through these two alone, so that no index goes untested. */
  private static int read(int[] row, int index) {
    return index >= 0 && index < row.length ? row[index] : 0;
  }

  private static void write(int[] row, int index, int value) {
    if (index >= 0 && index < row.length) {
      row[index] = value;
    }
  }

  /** Which sums so many different numbers of a set can make; a table, as the search asks it at each try. */
  private static final class Partitions {
    private static final int SETS = 512;
    private static final int ROW = MOST_SIDE + 1;

    /** For each set and each count of its numbers, the sums they make, as bits. */
    private final long[] sums;

    Partitions() {
      sums = new long[SETS * ROW];
      keepSums(0, 0, 1L);
      for (int highest = 1; highest <= MOST_NUMBER; highest++) {
        for (int lower = 0; lower < 1 << highest; lower += 2) {
          addHighest(lower, highest);
        }
      }
    }

    boolean make(int set, int count, int sum) {
      if (count < 0 || count >= ROW || sum < 0 || sum > MOST_SUM) {
        return false;
      }
      int index = (set >> 1) * ROW + count;
      return index >= 0 && index < sums.length && (sums[index] >> sum & 1L) != 0L;
    }

    private void addHighest(int lower, int highest) {
      int set = lower | 1 << highest;
      for (int count = 0; count < ROW; count++) {
        long without = sumsOf(lower, count);
        long with = count == 0 ? 0L : sumsOf(lower, count - 1) << highest;
        keepSums(set, count, without | with);
      }
    }

    private long sumsOf(int set, int count) {
      int index = (set >> 1) * ROW + count;
      return index >= 0 && index < sums.length ? sums[index] : 0L;
    }

    private void keepSums(int set, int count, long bits) {
      int index = (set >> 1) * ROW + count;
      if (index >= 0 && index < sums.length) {
        sums[index] = bits;
      }
    }
  }

  /** The corridors of one direction. */
  private static final class Corridors {
    private final int[] stones;
    private final Partitions partitions;

    /** Held by cell and not by corridor: a sum waits at its cell while no corridor begins there. */
    private final int[] told;

    private final int[] first;
    private final int[] size;
    private int step;

    /** What look() saw; kept here, as a method answers one value and calls shall make no objects. */
    private int seenNumbers;
    private int seenStones;
    private int seenTotal;

    Corridors(int[] stones, Partitions partitions) {
      this.stones = stones;
      this.partitions = partitions;
      told = new int[MOST_CELLS];
      first = new int[MOST_CELLS];
      size = new int[MOST_CELLS];
      step = 1;
    }

    void clear(int newStep) {
      step = newStep;
      for (int cell = 0; cell < MOST_CELLS; cell++) {
        write(told, cell, 0);
      }
    }

    int tellSum(int cell, int sum) {
      int before = read(told, cell);
      write(told, cell, sum);
      return before;
    }

    int toldAt(int cell) {
      return read(told, cell);
    }

    /** Cells must be joined in the order of their numbers, as each goes on from the one before it. */
    void join(int cell, int before) {
      write(size, cell, 0);
      if (read(stones, cell) == PILLAR) {
        write(first, cell, NO_CELL);
        return;
      }
      int start = before == NO_CELL ? NO_CELL : read(first, before);
      if (start == NO_CELL) {
        start = cell;
      }
      write(first, cell, start);
      write(size, start, read(size, start) + 1);
    }

    boolean beginsAt(int cell) {
      return read(first, cell) == cell;
    }

    int tell(int cell, int what) {
      int start = read(first, cell);
      if (start == NO_CELL) {
        return -1;
      }
      look(start);
      switch (what) {
        case 0:
          return start;
        case 1:
          return read(size, start);
        case 2:
          return read(told, start);
        case 3:
          return seenStones;
        case 4:
          return seenTotal;
        default:
          return isWellFrom(start) ? 1 : 0;
      }
    }

    boolean isWellFrom(int start) {
      look(start);
      if (sawAlike()) {
        return false;
      }
      int sum = read(told, start);
      int empty = read(size, start) - seenStones;
      return sum == 0 || partitions.make(ALL_NUMBERS & ~seenNumbers, empty, sum - seenTotal);
    }

    /** The numbers with which the corridor is well, if its cell, which has no stone, gets one. */
    int numbersFor(int cell) {
      int start = read(first, cell);
      if (start == NO_CELL) {
        return 0;
      }
      look(start);
      if (sawAlike()) {
        return 0;
      }
      int free = ALL_NUMBERS & ~seenNumbers;
      int sum = read(told, start);
      if (sum == 0) {
        return free;
      }
      int othersEmpty = read(size, start) - seenStones - 1;
      int missing = sum - seenTotal;
      int fit = 0;
      for (int number = 1; number <= MOST_NUMBER; number++) {
        int bit = 1 << number;
        if ((free & bit) != 0 && partitions.make(free & ~bit, othersEmpty, missing - number)) {
          fit |= bit;
        }
      }
      return fit;
    }

    private boolean sawAlike() {
      return Integer.bitCount(seenNumbers) != seenStones;
    }

    private void look(int start) {
      seenNumbers = 0;
      seenStones = 0;
      seenTotal = 0;
      int cells = read(size, start);
      for (int i = 0; i < cells; i++) {
        int number = read(stones, start + i * step);
        if (number > 0) {
          seenNumbers |= 1 << number;
          seenStones++;
          seenTotal += number;
        }
      }
    }
  }

  /** The cells with their stones, and the corridors of both directions. */
  private static final class Floor {
    private final int[] stones;
    private final Corridors across;
    private final Corridors down;
    private int columns;
    private int rows;

    Floor() {
      int[] row = new int[MOST_CELLS];
      Partitions partitions = new Partitions();
      stones = row;
      across = new Corridors(row, partitions);
      down = new Corridors(row, partitions);
      clear(FIRST_SIDE, FIRST_SIDE);
    }

    void clear(int w, int h) {
      columns = w;
      rows = h;
      for (int cell = 0; cell < MOST_CELLS; cell++) {
        write(stones, cell, 0);
      }
      across.clear(1);
      down.clear(w);
      joinCells();
    }

    private void joinCells() {
      for (int row = 0; row < rows; row++) {
        for (int column = 0; column < columns; column++) {
          int cell = row * columns + column;
          across.join(cell, column == 0 ? NO_CELL : cell - 1);
          down.join(cell, row == 0 ? NO_CELL : cell - columns);
        }
      }
    }

    int cells() {
      return columns * rows;
    }

    boolean has(int cell) {
      return cell >= 0 && cell < cells();
    }

    int stoneAt(int cell) {
      return read(stones, cell);
    }

    boolean isPillar(int cell) {
      return read(stones, cell) == PILLAR;
    }

    boolean isHole(int cell) {
      return read(stones, cell) == 0;
    }

    void lay(int cell, int number) {
      write(stones, cell, number);
    }

    void turnPillar(int cell) {
      write(stones, cell, isPillar(cell) ? 0 : PILLAR);
      joinCells();
    }

    Corridors corridors(boolean isDown) {
      return isDown ? down : across;
    }

    int numbersFor(int cell) {
      return isHole(cell) ? across.numbersFor(cell) & down.numbersFor(cell) : 0;
    }

    boolean isAllWell() {
      return wellOf(across) + wellOf(down) == corridorsOf(across) + corridorsOf(down);
    }

    int firstSingle() {
      for (int cell = 0; cell < cells(); cell++) {
        if (Integer.bitCount(numbersFor(cell)) == 1) {
          return cell;
        }
      }
      return NO_CELL;
    }

    int tightest() {
      int best = NO_CELL;
      int fewest = MOST_NUMBER + 1;
      for (int cell = 0; cell < cells(); cell++) {
        int choices = Integer.bitCount(numbersFor(cell));
        if (isHole(cell) && choices < fewest) {
          best = cell;
          fewest = choices;
        }
      }
      return best;
    }

    double meanOfNumbers() {
      int holes = 0;
      int choices = 0;
      for (int cell = 0; cell < cells(); cell++) {
        if (isHole(cell)) {
          holes++;
          choices += Integer.bitCount(numbersFor(cell));
        }
      }
      return holes == 0 ? 0.0 : (double) choices / (double) holes;
    }

    int tally(int what) {
      switch (what) {
        case 0:
          return cells();
        case 1:
          return columns;
        case 2:
          return openCells();
        case 3:
          return stonesLaid();
        case 4:
          return corridorsOf(across) + corridorsOf(down);
        case 5:
          return summedOf(across) + summedOf(down);
        case 6:
          return wellOf(across) + wellOf(down);
        case 7:
          return holesWithChoices(1);
        default:
          return holesWithChoices(0);
      }
    }

    private int openCells() {
      int found = 0;
      for (int cell = 0; cell < cells(); cell++) {
        if (!isPillar(cell)) {
          found++;
        }
      }
      return found;
    }

    private int stonesLaid() {
      int found = 0;
      for (int cell = 0; cell < cells(); cell++) {
        if (read(stones, cell) > 0) {
          found++;
        }
      }
      return found;
    }

    private int corridorsOf(Corridors corridors) {
      int found = 0;
      for (int cell = 0; cell < cells(); cell++) {
        if (corridors.beginsAt(cell)) {
          found++;
        }
      }
      return found;
    }

    private int summedOf(Corridors corridors) {
      int found = 0;
      for (int cell = 0; cell < cells(); cell++) {
        if (corridors.beginsAt(cell) && corridors.toldAt(cell) > 0) {
          found++;
        }
      }
      return found;
    }

    private int wellOf(Corridors corridors) {
      int found = 0;
      for (int cell = 0; cell < cells(); cell++) {
        if (corridors.beginsAt(cell) && corridors.isWellFrom(cell)) {
          found++;
        }
      }
      return found;
    }

    private int holesWithChoices(int choices) {
      int found = 0;
      for (int cell = 0; cell < cells(); cell++) {
        if (isHole(cell) && Integer.bitCount(numbersFor(cell)) == choices) {
          found++;
        }
      }
      return found;
    }
  }

  /** Looks for the fillings of a floor; it lays stones on the floor itself and takes them up again. */
  private static final class Search {
    private final Floor floor;
    private final int[] holes;
    private final int[] kept;
    private int holeCount;
    private int tried;
    private int found;

    /** Whether what was found still belongs to the floor as it is. */
    private boolean fresh;

    Search(Floor floor) {
      this.floor = floor;
      holes = new int[MOST_CELLS];
      kept = new int[MOST_CELLS];
      holeCount = 0;
      tried = 0;
      found = 0;
      fresh = false;
    }

    void forget() {
      fresh = false;
    }

    void refresh() {
      if (fresh) {
        return;
      }
      fresh = true;
      holeCount = 0;
      tried = 0;
      found = 0;
      if (floor.isAllWell()) {
        collectHoles();
        fillFrom(this, 0);
      }
    }

    int told() {
      return isUnknown() ? -1 : found;
    }

    int tried() {
      return tried;
    }

    int firstFilling(int cell) {
      return isUnknown() || found == 0 ? 0 : read(kept, cell);
    }

    private boolean isUnknown() {
      return tried > MOST_TRIES;
    }

    private boolean isOver() {
      return isUnknown() || found >= MOST_FILLINGS;
    }

    private void collectHoles() {
      for (int cell = 0; cell < floor.cells(); cell++) {
        if (floor.isHole(cell)) {
          write(holes, holeCount, cell);
          holeCount++;
        }
      }
    }

    private static void fillFrom(Search search, int depth) {
      if (depth >= search.holeCount || depth >= MOST_CELLS) {
        search.keepFilling();
        return;
      }
      Floor floor = search.floor;
      int cell = read(search.holes, depth);
      // Asked once ahead of the nine tries: they change no other cell.
      int fitting = floor.numbersFor(cell);
      for (int number = 1; number <= MOST_NUMBER && !search.isOver(); number++) {
        search.tried++;
        if (!search.isUnknown() && hasNumber(fitting, number)) {
          floor.lay(cell, number);
          fillFrom(search, depth + 1);
        }
      }
      floor.lay(cell, 0);
    }

    private void keepFilling() {
      if (found == 0) {
        for (int cell = 0; cell < MOST_CELLS; cell++) {
          write(kept, cell, floor.stoneAt(cell));
        }
      }
      found++;
    }
  }
}
