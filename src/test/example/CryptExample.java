/** A floor of two rows: its sums are told, some stones are laid, and the rest is asked for. */
public final class CryptExample {
  public static void main(String[] args) {
    CryptSums x = new CryptSums();   // an open floor of 4 columns and 4 rows
    x.setFloor(3, 2);                // another: cells 0 1 2, and below them 3 4 5
    x.setSum(0, false, 6);           // the corridor across that begins in cell 0
    x.setSum(3, false, 24);
    x.setSum(0, true, 8);            // the corridor down that begins in cell 0
    x.setSum(1, true, 11);
    x.setSum(2, true, 11);

    System.out.println("3 cells make 24 in " + x.ways(3, 24) + " way, with" + numbers(x.forced(3, 24)));
    System.out.println("cell 4 can bear" + numbers(x.can(4)));
    System.out.println("fillings: " + x.fillings() + ", after " + x.tries() + " tries");
    System.out.println("look next at cell " + x.next());

    x.put(0, 1);
    System.out.println("forced stones: " + x.force());
    System.out.println("with 2 in cell 1: " + x.would(1, 2) + " filling");
    System.out.println("with 4 in cell 1: " + x.would(1, 4) + " fillings");
    for (int cell = 0; cell < x.count(0); cell++) {
      System.out.println("cell " + cell + " bears " + x.stone(cell) + ", in the end " + x.solved(cell));
    }

    System.out.println("a pillar in cell 4: " + x.pillar(4));
    System.out.println("corridors: " + x.count(4) + ", one of them begins in " + x.corridor(5, false, 0));
    try {
      x.put(4, 9);
    } catch (IllegalStateException e) {
      System.out.println("a pillar bears no stone");
    }
  }

  /** What can() and forced() tell: bit 1 stands for the number 1, bit 9 for the number 9. */
  private static String numbers(int bits) {
    StringBuilder text = new StringBuilder();
    for (int number = 1; number <= 9; number++) {
      if ((bits >> number & 1) == 1) {
        text.append(' ').append(number);
      }
    }
    return text.toString();
  }
}
