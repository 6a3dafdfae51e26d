/** The promises 1 to 15, the new object and what is done with it: a test for each sentence. */
final class DeedSentences extends Sentences {
  private static final String NO_BLOCK = "Throws `IndexOutOfBoundsException` if there is no such BLOCK";
  private static final String NO_DISK = "Throws `IndexOutOfBoundsException` if there is no such DISK";
  private static final String NO_DISK_OR_STRIPE = "Throws `IndexOutOfBoundsException` if there is no such DISK, or STRIPE";
  private static final String NO_STRIPE = "Throws `IndexOutOfBoundsException` if there is no such STRIPE";
  private static final String WRONG_STRIPES = "Throws `IllegalArgumentException` if stripes is not 1 to 8";
  private static final String NO_SHELF_OR_OFF = "Throws `IllegalStateException` if there is no SHELF, or the power is OFF";
  private static final String LOST_THEN = "Returns how many BLOCKS are LOST then.";
  private static final String CELLS_MENDED = "Returns how many CELLS were MENDED.";

  @Override
  void tell() {
    newObject();
    shelf();
    write();
    writeThrows();
    read();
    fail();
    swap();
    flip();
    rebuild();
    patrol();
    giveUp();
    kind();
    fuse();
    off();
    power();
    boot();
  }

  private void newObject() {
    says(1, "Creates a place without a SHELF.");
    houses(0, 0, 0, 0, 0, 0, 0, 0, 0, 0, 0, 0, 0, 0, -1, 0, 0, 0);
    notes(-1, -1, -1);
    draws(0, -1);
    draws(999, -1);
    sound();
    bounds(() -> x.write(0, 0, 4), () -> x.read(0), () -> x.fail(0), () -> x.swap(0), () -> x.flip(0, 0, 1));
    bounds(() -> x.giveUp(0), () -> x.cell(0, 0, 0), () -> x.ofDisk(0, 0), () -> x.ofBlock(0, 0), () -> x.row(0));
    bounds(() -> x.wouldLose(0, 1));
    state(() -> x.rebuild(1), () -> x.patrol(1), x::off, x::power, () -> x.boot(0), () -> x.wouldBoot(0));
    due(30, () -> x.fuse(30, 0));
    due(10, () -> x.kind(4, 10, 3, 2));
    due(1, x::knock);
    // No place knows of the others.
    Staggershelf other = new Staggershelf();
    other.shelf(3, 1);
    other.kind(0, 7, 7, 7);
    other.knock();
    houses(0, 0, 0, 0, 0);
    houses(16, 1);
    due(10, () -> x.kind(0, 10, 3, 2));
  }

  private void shelf() {
    says(2, "Builds a SHELF (all else is gone, but KINDS of DISKS, the FUSE, and how many were REFUSED; the power is ON).");
    x.knock();
    x.kind(0, 11, 4, 3);
    x.kind(4, 12, 5, 1);
    x.fuse(40, 2);
    x.knock();
    x.shelf(5, 8);
    fill(9, 8, 7, 6, 5, 4, 3, 2, 1);
    x.read(0);
    x.swap(1);
    x.patrol(5);
    x.rebuild(3);
    x.flip(2, 0, 1);
    x.fail(3);
    x.write(8, 200, 2);
    houses(0, 5, 8, 32, 0, 1);
    due(2, () -> x.shelf(3, 1));
    houses(0, 3, 1, 2, 1, 0, 0, 0, 0, 0, 0, 0, 0, 0);
    houses(14, 0, 0, 2);
    notes(-1, -1, -1);
    disks(2, 0, 0, 0);
    disks(3, 11, 10, 10);
    disks(4, 4, 3, 3);
    disks(5, 3, 2, 2);
    cells(0, 0, 0, 0, 0);
    cells(0, 1, 0, 0, 0);
    sound();
    due(40, () -> x.fuse(30, 2));
    // The same size again: no disk has failed, no cell is as it was, and PATIENCE has stayed.
    due(32, () -> x.shelf(5, 8));
    houses(3, 1, 0, 0, 0, 0, 0, 0, 0, 0, 0);
    rows("+....", ".+...", "..+..", "...+.", "....+", "+....", ".+...", "..+..");
    disks(2, 0, 0, 0, 0, 0);
    disks(3, 11, 10, 10, 10, 12);
    blocks(3, 0, 0, 0, 0, 0, 0, 0, 0, 0);
    cells(2, 0, 0, 0, 0, 0, 0);
    cells(2, 1, 2, 2, 2, 2, 2);
    sound();
    x.fuse(29, 3);
    x.kind(0, 10, 3, 2);
    x.shelf(3, 1);
    houses(13, 3);
    // The power comes ON behind a failure of it, and also without a plan.
    x.write(0, 1, 0);
    x.fuse(1, 0);
    x.shelf(4, 2);
    houses(3, 1);
    houses(12, 0, -1);
    due(true, () -> x.write(0, 1, 4));

    says(2, "Returns how many BLOCKS it has.");
    for (int n = 3; n <= 5; n++) {
      for (int s = 1; s <= 8; s++) {
        int disks = n;
        int stripes = s;
        due((disks - 1) * stripes, () -> x.shelf(disks, stripes));
        houses(2, (disks - 1) * stripes);
      }
    }

    says(2, "Throws `IllegalArgumentException` if disks is not 3 to 5, or stripes not 1 to 8");
    argument(() -> x.shelf(2, 1), () -> x.shelf(6, 1), () -> x.shelf(3, 0), () -> x.shelf(3, 9));
    argument(() -> x.shelf(0, 0), () -> x.shelf(-3, -1), () -> x.shelf(MIN, MAX), () -> x.shelf(MAX, MIN));
    x.shelf(4, 2);
    fill(1, 2, 3);
    argument(() -> x.shelf(2, 8), () -> x.shelf(6, 8), () -> x.shelf(5, 0), () -> x.shelf(5, 9));
    x.write(4, 9, 1);
    argument(() -> x.shelf(5, -1), () -> x.shelf(MAX, 1), () -> x.shelf(3, MAX));
    due(2, () -> x.shelf(3, 1));
    due(32, () -> x.shelf(5, 8));
  }

  private void write() {
    says(3, "WRITES a VALUE into a BLOCK.");
    x.shelf(4, 2);
    fill(10, 20, 30, 40, 50, 60);
    cells(0, 0, 10 ^ 20 ^ 30, 10, 20, 30);
    cells(1, 0, 40, 40 ^ 50 ^ 60, 50, 60);
    due(true, () -> x.write(3, 0, 4));
    due(true, () -> x.write(5, 255, 4));
    due(true, () -> x.write(5, 255, 4));
    cells(1, 0, 0, 50 ^ 255, 50, 255);
    cells(1, 1, 1, (7 * (50 ^ 255) + 1) % 256, 351 % 256, (7 * 255 + 1) % 256);
    cells(0, 0, 10 ^ 20 ^ 30, 10, 20, 30);
    houses(9, 9, 0, 0, 0);
    notes(-1, -1, -1);

    says(3, "- `steps`: behind how many STEPS the power fails; 4: it does not");
    for (int steps = 0; steps <= 4; steps++) {
      fresh();
      x.shelf(3, 1);
      fill(1, 2);
      x.write(0, 8, steps);
      houses(3, steps == 4 ? 1 : 0);
      houses(12, steps == 4 ? 0 : 1);
      cells(0, 0, steps < 3 ? 1 ^ 2 : 8 ^ 2, steps < 2 ? 1 : 8, 2);
      boolean isNoted = steps > 0 && steps < 4;
      notes(isNoted ? 0 : -1, isNoted ? 8 : -1, isNoted ? 8 ^ 2 : -1);
    }

    says(3, "Returns whether the WRITE counts as done (1 STEP or more).");
    x.shelf(3, 1);
    due(false, () -> x.write(0, 7, 0));
    houses(9, 0);
    notes(-1, -1, -1);
    x.power();
    due(0, () -> x.read(0));
    sound();
    for (int n = 1; n <= 4; n++) {
      int steps = n;
      due(true, () -> x.write(0, 7 * steps, steps));
      houses(9, steps);
      x.off();
      x.power();
      due(7 * steps, () -> x.read(0));
      sound();
    }
    x.fail(1);
    due(true, () -> x.write(0, 5, 4));
    due(false, () -> x.write(0, 6, 0));
    x.power();
    due(5, () -> x.read(0));
  }

  private void writeThrows() {
    says(3, NO_BLOCK);
    bounds(() -> x.write(0, 0, 4), () -> x.write(-1, 0, 4));
    x.shelf(3, 2);
    bounds(() -> x.write(4, 0, 4), () -> x.write(-1, 0, 4), () -> x.write(MIN, 0, 0), () -> x.write(MAX, 0, 0));
    due(true, () -> x.write(3, 1, 4));
    x.shelf(5, 8);
    bounds(() -> x.write(32, 0, 4));
    due(true, () -> x.write(31, 1, 4));
    x.off();
    bounds(() -> x.write(32, 0, 4));
    x.shelf(3, 1);
    bounds(() -> x.write(2, 0, 4), () -> x.write(31, 0, 4));

    says(3, "Throws `IllegalArgumentException` if value is not 0 to 255, or steps not 0 to 4");
    x.shelf(3, 2);
    argument(() -> x.write(0, -1, 4), () -> x.write(0, 256, 4), () -> x.write(0, MIN, 4), () -> x.write(0, MAX, 4));
    argument(() -> x.write(0, 0, -1), () -> x.write(0, 0, 5), () -> x.write(0, 0, MIN), () -> x.write(0, 0, MAX));
    argument(() -> x.write(3, -1, 5), () -> x.write(3, 256, -1));
    due(true, () -> x.write(0, 255, 4));
    due(true, () -> x.write(0, 0, 4));
    x.flip(1, 0, 1);
    argument(() -> x.write(0, 256, 4));
    cells(0, 2, 0, 1, 0);

    says(3, "Throws `IllegalStateException` if the power is OFF, or its STRIPE is BROKEN");
    x.shelf(3, 2);
    x.off();
    state(() -> x.write(0, 1, 4), () -> x.write(3, 1, 0));
    x.power();
    x.write(0, 1, 1);
    state(() -> x.write(0, 2, 4), () -> x.write(3, 2, 1));
    notes(0, 1, 1);
    x.power();
    x.flip(0, 0, 1);
    due(true, () -> x.write(1, 1, 4));
    x.flip(0, 0, 1);
    x.flip(1, 0, 1);
    state(() -> x.write(0, 1, 4), () -> x.write(1, 1, 4), () -> x.write(1, 1, 0), () -> x.write(1, 1, 3));
    houses(3, 1);
    due(true, () -> x.write(2, 1, 4));
    x.fail(2);
    state(() -> x.write(1, 1, 4));
    due(true, () -> x.write(3, 1, 4));
    x.off();
    state(() -> x.write(1, 1, 4), () -> x.write(3, 1, 4));
  }

  private void read() {
    says(4, "READS a BLOCK.");
    x.shelf(3, 1);
    fill(17, 18);
    due(17, () -> x.read(0));
    due(18, () -> x.read(1));
    houses(10, 2, 0);
    x.flip(1, 0, 2);
    due(18, () -> x.read(1));
    cells(0, 2, 0, 1, 0);
    due(17, () -> x.read(0));
    cells(0, 2, 0, 0, 0);
    houses(10, 4, 1);

    says(4, "Returns what it reads; NONE, if it is LOST.");
    x.shelf(4, 2);
    fill(1, 2, 3, 4, 5, 255);
    due(255, () -> x.read(5));
    x.fail(3);
    due(255, () -> x.read(5));
    due(3, () -> x.read(2));
    x.flip(0, 1, 1);
    due(-1, () -> x.read(5));
    due(-1, () -> x.read(3));
    due(5, () -> x.read(4));
    due(3, () -> x.read(2));
    x.flip(0, 1, 1);
    due(255, () -> x.read(5));
    due(4, () -> x.read(3));
    houses(10, 9, 0);

    says(4, NO_BLOCK);
    bounds(() -> x.read(0), () -> x.read(-1));
    x.shelf(3, 1);
    bounds(() -> x.read(2), () -> x.read(-1), () -> x.read(MIN), () -> x.read(MAX));
    due(0, () -> x.read(1));
    x.shelf(5, 8);
    bounds(() -> x.read(32));
    due(0, () -> x.read(31));
    x.off();
    bounds(() -> x.read(32));

    says(4, "Throws `IllegalStateException` if the power is OFF");
    x.shelf(3, 1);
    x.flip(1, 0, 1);
    x.off();
    state(() -> x.read(0), () -> x.read(1));
    cells(0, 2, 0, 1, 0);
    x.power();
    due(0, () -> x.read(0));
    x.write(0, 1, 3);
    state(() -> x.read(0));
    x.boot(0);
    due(1, () -> x.read(0));
    // It need not be WHOLE.
    x.fail(0);
    x.fail(1);
    due(-1, () -> x.read(0));
  }

  private void fail() {
    says(5, "A DISK FAILS.");
    x.shelf(3, 2);
    fill(1, 2, 3, 4);
    x.fail(1);
    disks(0, 0, 1, 0);
    disks(1, 0, 2, 0);
    rows("+x.", ".x.");
    houses(4, 1, 2, 2, 0);
    cells(0, 0, 3, 1, 2);
    x.off();
    x.fail(0);
    disks(0, 1, 1, 0);
    houses(4, 2, 4, 0, 2);
    houses(3, 0);

    says(5, LOST_THEN);
    x.shelf(5, 5);
    due(0, () -> x.fail(0));
    due(1 + 2 + 2 + 2 + 1, () -> x.fail(4));
    due(2 + 3 + 3 + 2 + 2, () -> x.fail(3));
    x.shelf(3, 3);
    x.flip(1, 0, 1);
    x.flip(2, 1, 1);
    due(1 + 2 + 0, () -> x.fail(0));
    due(2 + 2 + 1, () -> x.fail(2));
    due(6, () -> x.fail(1));

    says(5, NO_DISK);
    bounds(() -> x.fail(0), () -> x.fail(-1));
    x.shelf(3, 1);
    bounds(() -> x.fail(3), () -> x.fail(4), () -> x.fail(-1), () -> x.fail(MIN), () -> x.fail(MAX));
    due(0, () -> x.fail(2));
    x.shelf(5, 1);
    bounds(() -> x.fail(5));
    due(0, () -> x.fail(4));
    x.off();
    bounds(() -> x.fail(5), () -> x.fail(-1));

    says(5, "Throws `IllegalStateException` if it has FAILED already");
    x.shelf(3, 1);
    x.fail(2);
    state(() -> x.fail(2), () -> x.fail(2));
    due(1, () -> x.fail(0));
    state(() -> x.fail(0), () -> x.fail(2));
    x.off();
    state(() -> x.fail(0));
    x.swap(2);
    due(1, () -> x.fail(2));
    state(() -> x.fail(2));
    x.shelf(3, 1);
    due(0, () -> x.fail(2));
  }

  private void swap() {
    says(6, "SWAPS a DISK (also one that has not FAILED).");
    x.shelf(3, 2);
    fill(1, 2, 3, 4);
    x.rebuild(1);
    x.fail(1);
    x.swap(1);
    rows("+?.", ".?.");
    disks(0, 0, 0, 0);
    disks(2, 0, 1, 0);
    cells(0, 0, 3, 0, 2);
    cells(0, 1, 21, -1, 14);
    houses(14, 0);
    x.rebuild(2);
    cells(0, 0, 3, 1, 2);
    x.swap(2);
    rows("+.?", ".+?");
    disks(2, 0, 1, 1);
    x.off();
    x.swap(2);
    x.swap(0);
    disks(2, 1, 1, 2);
    rows("?.?", "?+?");
    houses(3, 0);

    says(6, LOST_THEN);
    x.shelf(4, 4);
    due(0, () -> x.swap(0));
    due(0, () -> x.swap(0));
    due(1 + 2 + 2 + 1, () -> x.swap(3));
    due(6, () -> x.swap(0));
    due(2 + 3 + 2 + 2, () -> x.swap(2));
    x.shelf(3, 1);
    x.fail(1);
    due(2, () -> x.fail(2));
    due(2, () -> x.swap(1));
    x.giveUp(0);
    due(0, () -> x.swap(2));
    due(0, () -> x.swap(2));

    says(6, NO_DISK);
    bounds(() -> x.swap(0), () -> x.swap(-1));
    x.shelf(3, 1);
    bounds(() -> x.swap(3), () -> x.swap(4), () -> x.swap(-1), () -> x.swap(MIN), () -> x.swap(MAX));
    due(0, () -> x.swap(2));
    x.shelf(5, 1);
    bounds(() -> x.swap(5));
    due(0, () -> x.swap(4));
    x.off();
    bounds(() -> x.swap(5), () -> x.swap(-1));
  }

  private void flip() {
    says(7, "Bits of a CELL turn silently: its VALUE becomes that XOR the bits.");
    x.shelf(3, 2);
    fill(200, 100, 50, 25);
    x.flip(1, 0, 255);
    cells(0, 0, 200 ^ 100, 55, 100);
    cells(0, 1, 7 * (200 ^ 100) % 256, 1400 % 256, 700 % 256);
    cells(0, 2, 0, 1, 0);
    cells(1, 2, 0, 0, 0);
    houses(9, 4, 0, 0, 0);
    x.off();
    x.flip(1, 1, 1);
    cells(1, 2, 0, 1, 0);
    houses(3, 0);

    says(7, "Returns the VALUE then.");
    x.shelf(3, 1);
    x.write(0, 200, 4);
    due(201, () -> x.flip(1, 0, 1));
    due(200, () -> x.flip(1, 0, 1));
    due(55, () -> x.flip(1, 0, 255));
    due(0, () -> x.flip(1, 0, 55));
    due(128, () -> x.flip(2, 0, 128));
    x.swap(2);
    due(255, () -> x.flip(2, 0, 255));

    says(7, NO_DISK_OR_STRIPE);
    bounds(() -> x.flip(0, 0, 1));
    x.shelf(3, 2);
    bounds(() -> x.flip(3, 0, 1), () -> x.flip(-1, 0, 1), () -> x.flip(MIN, 0, 1), () -> x.flip(MAX, 0, 1));
    bounds(() -> x.flip(0, 2, 1), () -> x.flip(0, -1, 1), () -> x.flip(0, MIN, 1), () -> x.flip(0, MAX, 1));
    bounds(() -> x.flip(2, 3, 1), () -> x.flip(3, 1, 1), () -> x.flip(1, 7, 1));
    due(1, () -> x.flip(2, 1, 1));
    x.shelf(5, 8);
    bounds(() -> x.flip(5, 7, 1), () -> x.flip(4, 8, 1));
    due(1, () -> x.flip(4, 7, 1));
    x.fail(0);
    bounds(() -> x.flip(0, 8, 1));

    says(7, "Throws `IllegalArgumentException` if bits is not 1 to 255");
    x.shelf(3, 1);
    argument(() -> x.flip(0, 0, 0), () -> x.flip(0, 0, 256), () -> x.flip(0, 0, -1), () -> x.flip(0, 0, MIN));
    argument(() -> x.flip(0, 0, MAX), () -> x.flip(0, 0, 257));
    due(1, () -> x.flip(0, 0, 1));
    due(254, () -> x.flip(0, 0, 255));
    x.off();
    argument(() -> x.flip(0, 0, 0));

    says(7, "Throws `IllegalStateException` if the DISK has FAILED");
    x.shelf(3, 2);
    x.fail(1);
    state(() -> x.flip(1, 0, 1), () -> x.flip(1, 1, 255));
    due(1, () -> x.flip(0, 0, 1));
    due(1, () -> x.flip(2, 0, 1));
    x.off();
    state(() -> x.flip(1, 0, 1));
    x.swap(1);
    due(1, () -> x.flip(1, 0, 1));
  }

  private void rebuild() {
    says(8, "REBUILDS.");
    x.shelf(3, 3);
    fill(1, 2, 3, 4, 5, 6);
    x.swap(1);
    x.rebuild(1);
    rows("+..", ".?.", ".?+");
    cells(0, 0, 3, 1, 2);
    x.rebuild(8);
    rows("+..", ".+.", "..+");
    cells(1, 0, 3, 7, 4);
    houses(14, 0, 0);

    says(8, CELLS_MENDED);
    x.shelf(3, 8);
    due(0, () -> x.rebuild(8));
    x.swap(2);
    due(8, () -> x.rebuild(8));
    houses(11, 8);
    x.fail(0);
    due(0, () -> x.rebuild(8));
    x.swap(0);
    x.flip(1, 0, 1);
    x.flip(2, 3, 1);
    due(1, () -> x.rebuild(2));
    due(5, () -> x.rebuild(7));
    houses(11, 14);
    x.shelf(3, 1);
    x.flip(0, 0, 1);
    due(1, () -> x.rebuild(8));
    houses(14, 0);

    says(8, WRONG_STRIPES);
    argument(() -> x.rebuild(0), () -> x.rebuild(9));
    x.shelf(3, 8);
    argument(() -> x.rebuild(0), () -> x.rebuild(9), () -> x.rebuild(-1), () -> x.rebuild(MIN), () -> x.rebuild(MAX));
    due(0, () -> x.rebuild(1));
    due(0, () -> x.rebuild(8));
    houses(14, 1);

    says(8, NO_SHELF_OR_OFF);
    state(() -> x.rebuild(1), () -> x.rebuild(8));
    x.shelf(3, 1);
    x.swap(0);
    x.off();
    state(() -> x.rebuild(1), () -> x.rebuild(8));
    x.power();
    due(1, () -> x.rebuild(1));
    x.write(0, 1, 1);
    state(() -> x.rebuild(1));
  }

  private void patrol() {
    says(9, "A PATROL.");
    x.shelf(3, 3);
    fill(1, 2, 3, 4, 5, 6);
    x.swap(1);
    x.patrol(1);
    rows("+..", ".?.", ".?+");
    cells(0, 0, 3, 1, 2);
    x.patrol(7);
    rows("+..", ".+.", "..+");
    cells(1, 0, 3, 7, 4);
    houses(14, 0, 2);

    says(9, CELLS_MENDED);
    x.shelf(3, 8);
    due(0, () -> x.patrol(8));
    x.swap(2);
    due(8, () -> x.patrol(8));
    houses(11, 8);
    x.fail(0);
    due(0, () -> x.patrol(8));
    x.swap(0);
    x.flip(1, 0, 1);
    x.flip(2, 3, 1);
    due(1, () -> x.patrol(2));
    due(5, () -> x.patrol(7));
    houses(11, 14);
    x.shelf(3, 1);
    x.flip(0, 0, 1);
    due(1, () -> x.patrol(8));
    houses(15, 0);

    says(9, WRONG_STRIPES);
    argument(() -> x.patrol(0), () -> x.patrol(9));
    x.shelf(3, 8);
    argument(() -> x.patrol(0), () -> x.patrol(9), () -> x.patrol(-1), () -> x.patrol(MIN), () -> x.patrol(MAX));
    due(0, () -> x.patrol(1));
    due(0, () -> x.patrol(8));
    houses(15, 1);

    says(9, NO_SHELF_OR_OFF);
    state(() -> x.patrol(1), () -> x.patrol(8));
    x.shelf(3, 1);
    x.swap(0);
    x.off();
    state(() -> x.patrol(1), () -> x.patrol(8));
    x.power();
    due(1, () -> x.patrol(1));
    x.write(0, 1, 1);
    state(() -> x.patrol(1));
  }

  private void giveUp() {
    says(10, "GIVES UP a STRIPE.");
    x.shelf(4, 2);
    fill(1, 2, 4, 8, 16, 32);
    x.swap(2);
    x.swap(3);
    x.giveUp(0);
    cells(0, 0, 1, 1, 0, 0);
    cells(0, 2, 0, 0, 0, 0);
    rows("+...", ".+??");
    houses(5, 2, 0, 1, 2, 6, 0, 0);
    sound();
    x.giveUp(1);
    cells(1, 0, 8, 8, 0, 0);
    houses(5, 0, 0, 0, 0);
    sound();

    says(10, "Returns the set of its DATA CELLS, by their DISKS, whose BLOCKS were LOST.");
    x.shelf(5, 3);
    x.flip(0, 0, 1);
    x.flip(4, 0, 1);
    due(16, () -> x.giveUp(0));
    x.flip(1, 0, 1);
    x.flip(2, 0, 1);
    x.flip(3, 0, 1);
    due(14, () -> x.giveUp(0));
    x.fail(0);
    x.fail(1);
    due(2, () -> x.giveUp(0));
    due(1, () -> x.giveUp(1));
    due(3, () -> x.giveUp(2));
    due(3, () -> x.giveUp(2));
    x.swap(2);
    x.swap(3);
    x.swap(4);
    due(30, () -> x.giveUp(0));
    due(29, () -> x.giveUp(1));
    due(27, () -> x.giveUp(2));

    says(10, NO_STRIPE);
    bounds(() -> x.giveUp(0), () -> x.giveUp(-1));
    x.shelf(3, 2);
    x.swap(0);
    x.swap(1);
    bounds(() -> x.giveUp(2), () -> x.giveUp(-1), () -> x.giveUp(MIN), () -> x.giveUp(MAX), () -> x.giveUp(7));
    due(1, () -> x.giveUp(1));
    x.off();
    bounds(() -> x.giveUp(2));

    says(10, "Throws `IllegalStateException` if the power is OFF, or it is not BROKEN");
    x.shelf(3, 2);
    state(() -> x.giveUp(0), () -> x.giveUp(1));
    x.fail(0);
    state(() -> x.giveUp(0), () -> x.giveUp(1));
    x.flip(2, 0, 1);
    x.off();
    state(() -> x.giveUp(0), () -> x.giveUp(1));
    x.power();
    state(() -> x.giveUp(1));
    due(4, () -> x.giveUp(0));
    state(() -> x.giveUp(0));
  }

  private void kind() {
    says(11, "Tells what a DISK draws (of all DISKS 0 to 4, whether they are there or not).");
    for (int disk = 0; disk < 5; disk++) {
      x.kind(disk, 20 + disk, 1 + disk, 5 + disk);
    }
    x.shelf(3, 1);
    disks(3, 20, 21, 22);
    disks(4, 1, 2, 3);
    disks(5, 5, 6, 7);
    x.kind(4, 3, 4, 0);
    x.kind(0, 6, 9, 9);
    disks(3, 6, 21, 22);
    x.shelf(5, 1);
    disks(3, 6, 21, 22, 23, 3);
    disks(4, 9, 2, 3, 4, 4);
    disks(5, 9, 6, 7, 8, 0);
    x.fuse(90, 0);
    draws(0, 6 + 21 + 22 + 23 + 3);
    x.kind(4, 15, 4, 0);
    draws(0, 6 + 21 + 22 + 23 + 15);
    x.kind(4, 16, 4, 0);
    draws(0, 6 + 21 + 22 + 23 + 16);
    x.off();
    x.kind(1, 1, 1, 0);
    houses(3, 0);
    disks(3, 6, 1, 22, 23, 16);

    says(11, "Returns PEAK before.");
    for (int d = 0; d < 5; d++) {
      int disk = d;
      due(10, () -> x.kind(disk, 30 - disk, 1, 0));
      due(30 - disk, () -> x.kind(disk, 1, 9, 9));
      due(1, () -> x.kind(disk, 1, 9, 9));
    }
    x.shelf(3, 1);
    due(1, () -> x.kind(0, 7, 1, 0));
    due(1, () -> x.kind(4, 8, 1, 0));
    x.shelf(5, 1);
    due(7, () -> x.kind(0, 7, 1, 0));
    due(8, () -> x.kind(4, 7, 1, 0));

    says(11, "Throws `IndexOutOfBoundsException` if disk is not 0 to 4");
    bounds(() -> x.kind(5, 1, 1, 0), () -> x.kind(-1, 1, 1, 0), () -> x.kind(MIN, 1, 1, 0), () -> x.kind(MAX, 1, 1, 0));
    due(10, () -> x.kind(0, 10, 3, 2));
    due(10, () -> x.kind(4, 10, 3, 2));
    x.shelf(3, 1);
    bounds(() -> x.kind(5, 1, 1, 0), () -> x.kind(-1, 1, 1, 0), () -> x.kind(5, 0, 0, -1));
    due(10, () -> x.kind(3, 10, 3, 2));

    says(11, "Throws `IllegalArgumentException` if peak is not 1 to 30, spin not 1 to 9, or idle not 0 to 9");
    x.shelf(5, 1);
    argument(() -> x.kind(0, 0, 1, 0), () -> x.kind(0, 31, 1, 0), () -> x.kind(0, MIN, 1, 0), () -> x.kind(0, MAX, 1, 0));
    argument(() -> x.kind(1, 1, 0, 0), () -> x.kind(1, 1, 10, 0), () -> x.kind(1, 1, MIN, 0), () -> x.kind(1, 1, MAX, 0));
    argument(() -> x.kind(4, 1, 1, -1), () -> x.kind(4, 1, 1, 10), () -> x.kind(4, 1, 1, MIN), () -> x.kind(4, 1, 1, MAX));
    due(10, () -> x.kind(0, 1, 1, 0));
    due(1, () -> x.kind(0, 30, 9, 9));
    due(30, () -> x.kind(0, 30, 9, 9));
    disks(4, 9, 3, 3, 3, 3);
    disks(5, 9, 2, 2, 2, 2);
  }

  private void fuse() {
    says(12, "Tells the FUSE.");
    x.shelf(4, 1);
    houses(13, 6);
    x.fuse(40, 0);
    houses(13, 3);
    x.fuse(39, 0);
    houses(13, 6);
    x.fuse(39, 2);
    houses(13, 4);
    x.fuse(39, 3);
    houses(13, 3);
    due(0, () -> x.wouldBoot(0));
    x.off();
    x.fuse(39, 0);
    houses(13, 6);
    due(-1, () -> x.wouldBoot(0));
    x.fuse(7, 9);
    houses(13, -1);
    x.fuse(8, 9);
    houses(13, 3);
    houses(3, 0);

    says(12, "Returns LIMIT before.");
    due(30, () -> x.fuse(90, 9));
    due(90, () -> x.fuse(1, 0));
    due(1, () -> x.fuse(1, 0));
    x.shelf(3, 1);
    due(1, () -> x.fuse(33, 7));
    x.off();
    due(33, () -> x.fuse(34, 7));

    says(12, "Throws `IllegalArgumentException` if limit is not 1 to 90, or patience not 0 to 9");
    argument(() -> x.fuse(0, 0), () -> x.fuse(91, 0), () -> x.fuse(MIN, 0), () -> x.fuse(MAX, 0), () -> x.fuse(-1, 0));
    argument(() -> x.fuse(30, -1), () -> x.fuse(30, 10), () -> x.fuse(30, MIN), () -> x.fuse(30, MAX));
    x.shelf(4, 1);
    argument(() -> x.fuse(0, 9), () -> x.fuse(91, 9), () -> x.fuse(90, -1), () -> x.fuse(90, 10));
    due(30, () -> x.fuse(1, 9));
    due(1, () -> x.fuse(90, 0));
    due(90, () -> x.fuse(90, 9));
  }

  private void off() {
    says(13, "The power goes OFF.");
    x.shelf(3, 1);
    fill(1, 2);
    x.off();
    houses(3, 0);
    houses(12, 1);
    state(() -> x.read(0));
    cells(0, 0, 3, 1, 2);
    x.off();
    houses(3, 0);
    houses(12, 1);
    x.power();
    x.write(0, 4, 1);
    x.off();
    notes(0, 4, 6);
    houses(12, 2);

    says(13, "Returns whether it was ON.");
    x.shelf(3, 1);
    due(true, x::off);
    due(false, x::off);
    due(false, x::off);
    x.power();
    due(true, x::off);
    x.boot(20);
    due(true, x::off);
    x.power();
    x.write(0, 1, 0);
    due(false, x::off);
    x.shelf(3, 1);
    due(true, x::off);

    says(13, "Throws `IllegalStateException` if there is no SHELF");
    state(x::off, x::off);
    x.kind(0, 1, 1, 1);
    x.fuse(90, 9);
    state(x::off);
    x.shelf(3, 1);
    due(true, x::off);
  }

  private void power() {
    says(14, "The power comes ON, and all DISKS start by the PLAN.");
    x.shelf(3, 1);
    fill(1, 2);
    x.off();
    x.power();
    houses(3, 1);
    houses(12, 1);
    due(1, () -> x.read(0));
    x.write(1, 9, 1);
    x.power();
    notes(-1, -1, -1);
    cells(0, 0, 1 ^ 9, 1, 9);
    x.fail(0);
    x.fail(1);
    x.fail(2);
    x.off();
    due(3, x::power);
    disks(0, 1, 1, 1);

    says(14, "Returns END of it.");
    for (int n = 3; n <= 5; n++) {
      int disks = n;
      x.shelf(disks, 1);
      x.off();
      due(disks > 3 ? 6 : 3, x::power);
    }
    x.off();
    x.fuse(90, 0);
    due(3, x::power);
    x.off();
    x.kind(2, 1, 9, 0);
    due(9, x::power);
    x.off();
    x.kind(0, 30, 9, 0);
    x.kind(1, 30, 9, 0);
    x.kind(2, 30, 9, 0);
    x.kind(3, 30, 9, 0);
    x.kind(4, 30, 9, 0);
    due(18, x::power);
    x.off();
    x.fuse(30, 0);
    due(45, x::power);

    says(14, "Throws `IllegalStateException` if there is no SHELF, the power is ON, or there is no PLAN");
    state(x::power, x::power);
    x.shelf(4, 1);
    state(x::power, x::power);
    x.fuse(9, 0);
    state(x::power);
    x.write(0, 9, 1);
    state(x::power, x::power);
    notes(0, 9, 9);
    houses(3, 0);
    x.fuse(16, 0);
    due(12, x::power);
    state(x::power);
  }

  private void boot() {
    says(15, "The power comes ON, and DISKS start by rising numbers, each one a GAP behind the one ahead.");
    x.shelf(3, 1);
    fill(1, 2);
    x.off();
    x.boot(5);
    houses(3, 1);
    houses(12, 1);
    due(1, () -> x.read(0));
    x.write(1, 9, 1);
    x.boot(0);
    notes(-1, -1, -1);
    cells(0, 0, 1 ^ 9, 1, 9);
    x.off();
    // By rising numbers the highest PEAK comes last, with the others idle.
    x.kind(0, 5, 1, 0);
    x.kind(1, 25, 1, 0);
    x.kind(2, 30, 1, 9);
    due(2, () -> x.boot(1));
    x.off();
    x.kind(0, 30, 1, 9);
    x.kind(2, 5, 1, 0);
    due(-1, () -> x.boot(1));
    due(-1, () -> x.boot(20));
    houses(3, 0);

    says(15, "Returns the tenth at which the last one starts; NONE, if that trips the FUSE (the power stays OFF then, and nothing is done).");
    for (int n = 3; n <= 5; n++) {
      int disks = n;
      x.shelf(disks, 1);
      x.off();
      due(disks == 3 ? 0 : -1, () -> x.boot(0));
      houses(3, disks == 3 ? 1 : 0);
      x.off();
      houses(12, disks == 3 ? 2 : 1);
      due((disks - 1) * 3, () -> x.boot(3));
      x.off();
      due((disks - 1) * 20, () -> x.boot(20));
    }
    x.shelf(4, 1);
    x.write(0, 9, 2);
    long before = x.digest();
    due(-1, () -> x.boot(0));
    due(before, x::digest);
    notes(0, 9, 9);
    cells(0, 0, 0, 9, 0, 0);
    houses(3, 0);
    // 60 at most holds for the plan alone, and no plan is asked for.
    x.fuse(8, 9);
    x.kind(3, 9, 9, 2);
    due(60, () -> x.boot(20));
    notes(-1, -1, -1);
    x.off();
    x.fuse(7, 9);
    houses(13, -1);
    due(-1, () -> x.boot(20));
    x.shelf(5, 1);
    x.off();
    // Behind the last start DRAW is above LIMIT for nine tenths and one more, or for good.
    x.fuse(9, 9);
    due(-1, () -> x.boot(20));
    x.fuse(10, 9);
    due(80, () -> x.boot(20));
    x.off();
    x.kind(4, 11, 9, 2);
    x.fuse(18, 8);
    due(-1, () -> x.boot(20));
    x.fuse(18, 9);
    due(80, () -> x.boot(20));

    says(15, "Throws `IllegalArgumentException` if gap is not 0 to 20");
    argument(() -> x.boot(-1), () -> x.boot(21));
    x.shelf(3, 1);
    x.off();
    argument(() -> x.boot(-1), () -> x.boot(21), () -> x.boot(MIN), () -> x.boot(MAX));
    due(0, () -> x.boot(0));
    x.off();
    due(40, () -> x.boot(20));
    argument(() -> x.boot(21));

    says(15, "Throws `IllegalStateException` if there is no SHELF, or the power is ON");
    state(() -> x.boot(0), () -> x.boot(20));
    x.shelf(3, 1);
    state(() -> x.boot(0), () -> x.boot(20));
    x.off();
    due(0, () -> x.boot(0));
    state(() -> x.boot(0), () -> x.boot(0));
    x.fuse(1, 0);
    state(() -> x.boot(0));
  }
}
