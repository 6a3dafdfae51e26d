import java.math.BigInteger;
import java.util.ArrayList;
import java.util.List;

/** The promises 16 to 27, what is asked: a test for each sentence. */
final class AskedSentences extends Sentences {
  private static final String THAT = "Returns that.";
  private static final String NO_DISK = "Throws `IndexOutOfBoundsException` if there is no such DISK";

  @Override
  void tell() {
    cell();
    ofDisk();
    ofBlock();
    note();
    house();
    houseThrows();
    row();
    draw();
    wouldBoot();
    wouldLose();
    isSound();
    knock();
    digest();
  }

  private void cell() {
    says(16, "- `what`: 0 VALUE, 1 MARK, 2 1 if BAD, otherwise 0, 3 the BLOCK in it (NONE of a SUM CELL), 4 what it should have: VALUE, if it is not BAD, otherwise that by the others; NONE, if its STRIPE is BROKEN and it is BAD");
    x.shelf(4, 2);
    fill(10, 20, 30, 40, 50, 60);
    int sum = 40 ^ 50 ^ 60;
    cells(1, 0, 40, sum, 50, 60);
    cells(1, 1, 281 % 256, (7 * sum + 1) % 256, 351 % 256, 421 % 256);
    cells(1, 2, 0, 0, 0, 0);
    cells(1, 3, 3, -1, 4, 5);
    cells(0, 3, -1, 0, 1, 2);
    cells(1, 4, 40, sum, 50, 60);
    // WHOLE by the marks, whatever they have; HURT: by the others; BROKEN: only what is not BAD.
    x.flip(2, 1, 1);
    cells(1, 0, 40, sum, 51, 60);
    cells(1, 1, 281 % 256, (7 * sum + 1) % 256, 351 % 256, 421 % 256);
    cells(1, 2, 0, 0, 1, 0);
    cells(1, 3, 3, -1, 4, 5);
    cells(1, 4, 40, sum, 50, 60);
    x.flip(1, 1, 2);
    cells(1, 2, 0, 1, 1, 0);
    cells(1, 4, 40, -1, -1, 60);
    x.flip(2, 1, 1);
    cells(1, 2, 0, 1, 0, 0);
    cells(1, 4, 40, sum, 50, 60);
    x.swap(0);
    cells(1, 0, 0, sum ^ 2, 50, 60);
    cells(1, 1, -1, (7 * sum + 1) % 256, 351 % 256, 421 % 256);
    cells(1, 4, -1, -1, 50, 60);
    cells(0, 4, 10 ^ 20 ^ 30, 10, 20, 30);
    x.off();
    cells(1, 4, -1, -1, 50, 60);

    says(16, "Returns that (0 and 1 of a DISK that has FAILED: as they were).");
    x.shelf(3, 2);
    fill(1, 2, 3, 4);
    x.flip(1, 0, 8);
    x.fail(1);
    cells(0, 0, 3, 9, 2);
    cells(0, 1, 21, 7, 14);
    cells(1, 0, 3, 3 ^ 4, 4);
    cells(1, 1, 22, 50, 29);
    cells(1, 2, 0, 1, 0);
    x.write(0, 100, 4);
    x.write(2, 101, 4);
    x.off();
    x.power();
    cells(0, 0, 100 ^ 2, 9, 2);
    cells(1, 0, 101, 3 ^ 4, 4);
    cells(1, 1, 708 % 256, 50, 29);
    x.flip(2, 0, 1);
    x.giveUp(0);
    cells(0, 0, 0, 9, 0);
    cells(0, 1, 0, 7, 0);

    says(16, "Throws `IndexOutOfBoundsException` if there is no such DISK, or STRIPE");
    bounds(() -> x.cell(0, 0, 0), () -> x.cell(-1, -1, -1));
    x.shelf(3, 2);
    bounds(() -> x.cell(3, 0, 0), () -> x.cell(-1, 0, 0), () -> x.cell(MIN, 0, 0), () -> x.cell(MAX, 0, 0));
    bounds(() -> x.cell(0, 2, 0), () -> x.cell(0, -1, 0), () -> x.cell(0, MIN, 0), () -> x.cell(0, MAX, 0));
    bounds(() -> x.cell(0, 7, 1), () -> x.cell(4, 1, 2), () -> x.cell(2, 2, 3), () -> x.cell(3, 1, 4));
    due(3, () -> x.cell(2, 1, 3));
    x.shelf(5, 8);
    bounds(() -> x.cell(5, 7, 0), () -> x.cell(4, 8, 0));
    due(31, () -> x.cell(4, 7, 3));

    says(16, "Throws `IllegalArgumentException` if what is not 0 to 4");
    x.shelf(3, 1);
    argument(() -> x.cell(0, 0, -1), () -> x.cell(0, 0, 5), () -> x.cell(2, 0, MIN), () -> x.cell(2, 0, MAX));
    x.fail(0);
    x.off();
    argument(() -> x.cell(0, 0, -1), () -> x.cell(0, 0, 5));
  }

  private void ofDisk() {
    says(17, "- `what`: 0 1 if it has FAILED, otherwise 0, 1 BAD CELLS, 2 how often it was SWAPPED, 3 PEAK, 4 SPIN, 5 IDLE, 6 its start by the PLAN (NONE), 7 its place in the PLAN, from 0 on (NONE)");
    x.shelf(3, 4);
    x.flip(0, 1, 1);
    x.flip(0, 3, 1);
    x.fail(1);
    x.swap(2);
    x.swap(2);
    x.rebuild(1);
    disks(0, 0, 1, 0);
    disks(1, 2, 4, 4);
    disks(2, 0, 0, 2);
    x.swap(1);
    disks(0, 0, 0, 0);
    disks(1, 2, 4, 4);
    disks(2, 0, 1, 2);
    x.kind(1, 20, 4, 1);
    x.kind(2, 11, 3, 0);
    disks(3, 10, 20, 11);
    disks(4, 3, 4, 3);
    disks(5, 2, 1, 0);
    disks(6, 0, 0, 4);
    disks(7, 0, 1, 2);
    x.fuse(29, 0);
    disks(6, 0, 3, 0);
    disks(7, 0, 2, 1);
    x.fuse(2, 9);
    disks(6, -1, -1, -1);
    disks(7, -1, -1, -1);

    says(17, THAT);
    x.shelf(5, 1);
    x.off();
    for (int what = 0; what < 3; what++) {
      disks(what, 0, 0, 0, 0, 0);
    }
    disks(3, 10, 10, 10, 10, 10);
    disks(4, 3, 3, 3, 3, 3);
    disks(5, 2, 2, 2, 2, 2);
    disks(6, 0, 0, 0, 3, 3);
    disks(7, 0, 1, 2, 3, 4);

    says(17, NO_DISK);
    bounds(() -> x.ofDisk(0, 0), () -> x.ofDisk(0, 3), () -> x.ofDisk(4, 7), () -> x.ofDisk(-1, 8));
    x.shelf(3, 1);
    bounds(() -> x.ofDisk(3, 3), () -> x.ofDisk(4, 3), () -> x.ofDisk(-1, 3), () -> x.ofDisk(MIN, 6));
    bounds(() -> x.ofDisk(MAX, 0), () -> x.ofDisk(3, 8));
    due(10, () -> x.ofDisk(2, 3));
    x.shelf(5, 1);
    bounds(() -> x.ofDisk(5, 0));
    due(10, () -> x.ofDisk(4, 3));

    says(17, "Throws `IllegalArgumentException` if what is not 0 to 7");
    x.shelf(3, 1);
    argument(() -> x.ofDisk(0, -1), () -> x.ofDisk(0, 8), () -> x.ofDisk(2, MIN), () -> x.ofDisk(2, MAX));
    x.fail(0);
    x.off();
    argument(() -> x.ofDisk(0, 8));
  }

  private void ofBlock() {
    says(18, "- `what`: 0 its DISK, 1 its STRIPE, 2 1 if it is LOST, otherwise 0, 3 what it would read (NONE)");
    x.shelf(3, 4);
    fill(1, 2, 3, 4, 5, 6, 7, 8);
    blocks(0, 1, 2, 0, 2, 0, 1, 1, 2);
    blocks(1, 0, 0, 1, 1, 2, 2, 3, 3);
    blocks(2, 0, 0, 0, 0, 0, 0, 0, 0);
    blocks(3, 1, 2, 3, 4, 5, 6, 7, 8);
    x.fail(2);
    blocks(2, 0, 0, 0, 0, 0, 0, 0, 0);
    blocks(3, 1, 2, 3, 4, 5, 6, 7, 8);
    x.flip(0, 1, 1);
    x.flip(1, 2, 1);
    x.flip(0, 3, 1);
    blocks(2, 0, 0, 1, 1, 0, 1, 0, 1);
    blocks(3, 1, 2, -1, -1, 5, -1, 7, -1);
    x.off();
    blocks(2, 0, 0, 1, 1, 0, 1, 0, 1);
    blocks(3, 1, 2, -1, -1, 5, -1, 7, -1);
    // What it would read is neither read nor mended.
    x.swap(2);
    blocks(3, 1, 2, -1, -1, 5, -1, 7, -1);
    houses(10, 0, 0);
    due(1, () -> x.cell(2, 0, 2));

    says(18, THAT);
    x.shelf(5, 8);
    due(4, () -> x.ofBlock(31, 0));
    due(7, () -> x.ofBlock(31, 1));
    due(0, () -> x.ofBlock(31, 2));
    due(0, () -> x.ofBlock(31, 3));
    x.write(31, 255, 4);
    due(255, () -> x.ofBlock(31, 3));
    x.write(31, 254, 1);
    due(255, () -> x.ofBlock(31, 3));
    x.power();
    due(254, () -> x.ofBlock(31, 3));

    says(18, "Throws `IndexOutOfBoundsException` if there is no such BLOCK");
    bounds(() -> x.ofBlock(0, 0), () -> x.ofBlock(-1, 0), () -> x.ofBlock(0, 4));
    x.shelf(3, 1);
    bounds(() -> x.ofBlock(2, 0), () -> x.ofBlock(-1, 3), () -> x.ofBlock(MIN, 1), () -> x.ofBlock(MAX, 2));
    due(2, () -> x.ofBlock(1, 0));
    x.shelf(5, 8);
    bounds(() -> x.ofBlock(32, 0), () -> x.ofBlock(32, 4));
    due(4, () -> x.ofBlock(31, 0));

    says(18, "Throws `IllegalArgumentException` if what is not 0 to 3");
    x.shelf(3, 1);
    argument(() -> x.ofBlock(0, -1), () -> x.ofBlock(0, 4), () -> x.ofBlock(1, MIN), () -> x.ofBlock(1, MAX));
    x.off();
    argument(() -> x.ofBlock(0, 4));
  }

  private void note() {
    says(19, "- `what`: 0 the BLOCK of the NOTE, 1 its VALUE, 2 its SUM");
    x.shelf(4, 2);
    fill(1, 2, 4, 8, 16, 32);
    for (int steps = 1; steps < 4; steps++) {
      x.write(5, 100 + steps, steps);
      notes(5, 100 + steps, (100 + steps) ^ 24);
      x.power();
    }
    // What the SUM CELL should have, and what the BLOCK reads.
    x.fail(1);
    x.write(4, 0, 1);
    notes(4, 0, 8 ^ 103);
    x.power();
    x.write(0, 255, 1);
    notes(0, 255, 255 ^ 2 ^ 4);
    x.swap(0);
    x.swap(2);
    x.fail(3);
    notes(0, 255, 255 ^ 2 ^ 4);

    says(19, "Returns that; NONE without a NOTE.");
    notes(-1, -1, -1);
    x.shelf(3, 1);
    notes(-1, -1, -1);
    x.write(0, 7, 4);
    notes(-1, -1, -1);
    x.write(0, 8, 0);
    notes(-1, -1, -1);
    x.power();
    x.write(0, 0, 1);
    notes(0, 0, 0);
    x.boot(2);
    notes(-1, -1, -1);
    x.write(1, 9, 3);
    notes(1, 9, 9);
    x.shelf(3, 1);
    notes(-1, -1, -1);

    says(19, "Throws `IllegalArgumentException` if what is not 0 to 2");
    argument(() -> x.note(-1), () -> x.note(3), () -> x.note(MIN), () -> x.note(MAX));
    x.shelf(3, 1);
    argument(() -> x.note(-1), () -> x.note(3));
    x.write(0, 1, 1);
    argument(() -> x.note(-1), () -> x.note(3));
  }

  private void house() {
    says(20, "- `what`: 0 DISKS, 1 STRIPES, 2 BLOCKS, 3 1 if the power is ON, otherwise 0 (0 without a SHELF), 4 DISKS that have FAILED, 5 BAD CELLS, 6 HURT STRIPES, 7 BROKEN ones, 8 LOST BLOCKS, 9 WRITES that count as done, 10 READS (of LOST BLOCKS, too), 11 CELLS that were MENDED, 12 how often the power went OFF, 13 END of the PLAN (NONE), 14 the STRIPE at which REBUILDING goes on, 15 that at which a PATROL does, 16 how many were REFUSED");
    houses(0, 0, 0, 0, 0, 0, 0, 0, 0, 0, 0, 0, 0, 0, -1, 0, 0, 0);
    x.shelf(4, 3);
    houses(0, 4, 3, 9, 1, 0, 0, 0, 0, 0, 0, 0, 0, 0, 6, 0, 0, 0);
    x.write(0, 1, 4);
    x.write(1, 1, 1);
    houses(0, 4, 3, 9, 0, 0, 0, 0, 0, 0, 2, 0, 0, 1, 6, 0, 0, 0);
    x.power();
    x.write(1, 1, 0);
    houses(9, 2, 0, 0, 2);
    x.off();
    houses(9, 2, 0, 0, 2);
    x.boot(20);
    x.off();
    houses(9, 2, 0, 0, 3);
    x.power();
    x.fail(3);
    houses(3, 1, 1, 3, 3, 0, 0);
    x.flip(1, 0, 1);
    x.flip(1, 1, 1);
    houses(3, 1, 1, 5, 1, 2, 2 + 1);
    due(-1, () -> x.read(0));
    due(0, () -> x.read(3));
    houses(9, 2, 2, 0, 3);
    x.swap(3);
    houses(3, 1, 0, 5, 1, 2, 3);
    x.patrol(2);
    houses(9, 2, 2, 0, 3);
    x.patrol(1);
    houses(9, 2, 2, 1, 3);
    houses(14, 0, 0);
    x.rebuild(1);
    x.patrol(2);
    houses(14, 1, 2);
    // What is given up counts neither as WRITTEN nor as MENDED.
    x.giveUp(0);
    x.giveUp(1);
    houses(3, 1, 0, 0, 0, 0, 0, 2, 2, 1, 3);
    x.flip(1, 2, 1);
    x.read(7);
    houses(9, 2, 3, 2, 3);
    x.flip(1, 2, 1);
    x.write(6, 1, 4);
    houses(9, 3, 3, 3, 3);
    x.fuse(1, 0);
    x.knock();
    x.knock();
    houses(13, -1, 1, 2, 2);

    says(20, THAT);
    for (int n = 3; n <= 5; n++) {
      fresh();
      x.shelf(n, 8);
      for (int disk = 0; disk < n; disk++) {
        x.fail(disk);
      }
      int all = (n - 1) * 8;
      houses(0, n, 8, all, 1, n, n * 8, 0, 8, all, 0, 0, 0, 0, n == 3 ? 3 : 6, 0, 0, 0);
    }
    fresh();
    x.shelf(5, 8);
    x.rebuild(7);
    x.patrol(8);
    houses(14, 7, 0);
    x.rebuild(1);
    x.patrol(7);
    houses(14, 0, 7);
  }

  private void houseThrows() {
    says(20, "Throws `IllegalArgumentException` if what is not 0 to 16");
    argument(() -> x.house(-1), () -> x.house(17), () -> x.house(MIN), () -> x.house(MAX));
    x.shelf(3, 1);
    argument(() -> x.house(-1), () -> x.house(17));
    x.off();
    argument(() -> x.house(17));
  }

  private void row() {
    says(21, "Returns its row: for each DISK the first of these: \"x\" if it has FAILED, \"?\" if the CELL is BAD, \"+\" for a SUM CELL, otherwise \".\".");
    x.shelf(5, 6);
    rows("+....", ".+...", "..+..", "...+.", "....+", "+....");
    x.flip(1, 1, 1);
    x.flip(0, 0, 1);
    x.flip(3, 0, 1);
    rows("?..?.", ".?...", "..+..");
    x.fail(3);
    rows("?..x.", ".?.x.", "..+x.", "...x.", "...x+", "+..x.");
    x.fail(0);
    x.swap(4);
    x.off();
    rows("x..x?", "x?.x?", "x.+x?", "x..x?", "x..x?", "x..x?");
    x.shelf(3, 1);
    rows("+..");
    x.swap(0);
    x.swap(1);
    x.swap(2);
    rows("???");
    x.fail(0);
    x.fail(1);
    x.fail(2);
    rows("xxx");

    says(21, "Throws `IndexOutOfBoundsException` if there is no such STRIPE");
    bounds(() -> x.row(0), () -> x.row(-1));
    x.shelf(3, 1);
    bounds(() -> x.row(1), () -> x.row(-1), () -> x.row(MIN), () -> x.row(MAX));
    x.shelf(5, 8);
    bounds(() -> x.row(8), () -> x.row(-1));
    due("..+..", () -> x.row(7));
    x.off();
    bounds(() -> x.row(8));
  }

  private void draw() {
    says(22, "Returns DRAW at it, as all start by the PLAN; NONE without a PLAN.");
    draws(0, -1, -1);
    draws(999, -1);
    x.shelf(4, 1);
    draws(0, 30, 30, 30, 16, 16, 16, 8, 8);
    draws(999, 8);
    x.off();
    draws(2, 30, 16);
    // By the plan, whatever GAP they have started by.
    x.boot(20);
    draws(0, 30);
    draws(60, 8);
    x.fuse(20, 0);
    draws(0, 20, 20, 20, 14, 14, 14, 16, 16, 16, 8);
    x.fuse(7, 9);
    draws(0, -1);
    draws(999, -1);
    x.fuse(8, 9);
    draws(0, 40, 40, 40, 8);
    x.kind(0, 30, 9, 0);
    draws(0, 60, 60, 60, 36, 36, 36, 36, 36, 36, 6);
    draws(998, 6, 6);

    says(22, "Throws `IllegalArgumentException` if tenth is not 0 to 999");
    argument(() -> x.draw(-1), () -> x.draw(1000), () -> x.draw(MIN), () -> x.draw(MAX));
    x.shelf(3, 1);
    argument(() -> x.draw(-1), () -> x.draw(1000), () -> x.draw(MIN), () -> x.draw(MAX));
    draws(0, 30);
    draws(999, 6);
    x.fuse(1, 0);
    argument(() -> x.draw(-1), () -> x.draw(1000));
  }

  private void wouldBoot() {
    says(23, "Returns what boot() would tell, if the power was OFF.");
    for (int disks = 3; disks <= 5; disks++) {
      fresh();
      x.shelf(disks, 1);
      for (int gap = 0; gap <= 20; gap++) {
        // Three may start at once; of four or more three spin at once by a gap of 1, with others idle.
        wouldAndDoes(gap, disks > 3 && gap < 2 ? -1 : gap * (disks - 1));
      }
    }
    fresh();
    x.shelf(3, 1);
    x.write(0, 9, 1);
    due(0, () -> x.wouldBoot(0));
    notes(0, 9, 9);
    x.fuse(5, 9);
    due(-1, () -> x.wouldBoot(20));

    says(23, "Throws `IllegalArgumentException` if gap is not 0 to 20");
    argument(() -> x.wouldBoot(-1), () -> x.wouldBoot(21));
    x.shelf(3, 1);
    argument(() -> x.wouldBoot(-1), () -> x.wouldBoot(21), () -> x.wouldBoot(MIN), () -> x.wouldBoot(MAX));
    due(0, () -> x.wouldBoot(0));
    due(40, () -> x.wouldBoot(20));
    x.off();
    argument(() -> x.wouldBoot(-1), () -> x.wouldBoot(21));

    says(23, "Throws `IllegalStateException` if there is no SHELF");
    state(() -> x.wouldBoot(0), () -> x.wouldBoot(20));
    x.fuse(90, 9);
    state(() -> x.wouldBoot(0));
    x.shelf(3, 1);
    due(0, () -> x.wouldBoot(0));
  }

  private void wouldAndDoes(int gap, int last) {
    due(last, () -> x.wouldBoot(gap));
    x.off();
    due(last, () -> x.wouldBoot(gap));
    houses(3, 0);
    due(last, () -> x.boot(gap));
    houses(3, last == -1 ? 0 : 1);
    if (last == -1) {
      x.power();
    }
  }

  private void wouldLose() {
    says(24, "Returns how many BLOCKS would be LOST, if both FAILED now (those that have FAILED already, too).");
    x.shelf(4, 4);
    due(1 + 1 + 2 + 2, () -> x.wouldLose(0, 1));
    due(2 + 2 + 1 + 1, () -> x.wouldLose(3, 2));
    // Those that are LOST already, too, and those BAD by their marks.
    x.flip(1, 2, 1);
    due(1 + 1 + 2 + 2, () -> x.wouldLose(0, 1));
    due(2 + 2 + 2 + 1, () -> x.wouldLose(3, 2));
    x.fail(0);
    due(1 + 1 + 2 + 2, () -> x.wouldLose(0, 1));
    due(1 + 1 + 2 + 2, () -> x.wouldLose(1, 0));
    due(2 + 3 + 3 + 2, () -> x.wouldLose(3, 2));
    x.fail(1);
    due(1 + 1 + 2 + 2, () -> x.wouldLose(0, 1));
    due(2 + 2 + 3 + 2, () -> x.wouldLose(0, 3));
    due(3 + 3 + 3 + 3, () -> x.wouldLose(3, 2));
    houses(4, 2);
    houses(8, 6);
    x.off();
    due(2 + 2 + 3 + 2, () -> x.wouldLose(3, 0));
    disks(0, 1, 1, 0, 0);

    says(24, "Throws `IndexOutOfBoundsException` if there is no such DISK, of both");
    bounds(() -> x.wouldLose(0, 1), () -> x.wouldLose(0, 0), () -> x.wouldLose(-1, -1));
    x.shelf(3, 1);
    bounds(() -> x.wouldLose(3, 0), () -> x.wouldLose(0, 3), () -> x.wouldLose(-1, 0), () -> x.wouldLose(0, -1));
    bounds(() -> x.wouldLose(MIN, 0), () -> x.wouldLose(0, MAX), () -> x.wouldLose(3, 3), () -> x.wouldLose(-1, -1));
    due(2, () -> x.wouldLose(2, 1));
    x.shelf(5, 1);
    bounds(() -> x.wouldLose(5, 4), () -> x.wouldLose(4, 5), () -> x.wouldLose(5, 5));
    due(2, () -> x.wouldLose(4, 3));

    says(24, "Throws `IllegalArgumentException` if both are the same");
    x.shelf(3, 1);
    argument(() -> x.wouldLose(0, 0), () -> x.wouldLose(1, 1), () -> x.wouldLose(2, 2));
    x.fail(1);
    x.off();
    argument(() -> x.wouldLose(1, 1));
    due(1, () -> x.wouldLose(0, 1));
  }

  private void isSound() {
    says(25, "Returns whether all is SOUND: in each WHOLE STRIPE, but for that of the BLOCK of a NOTE, the SUM CELL has the XOR of all others; each BLOCK that is not LOST, but for those of that STRIPE, would read as it was WRITTEN last (0 at first); with a PLAN DRAW by it is not above LIMIT in more than PATIENCE tenths one behind the other.");
    sound();
    x.shelf(4, 3);
    sound();
    fill(1, 2, 3, 4, 5, 6, 7, 8, 9);
    sound();
    // Between the STEPS the STRIPE of the NOTE alone is not looked at, WHOLE or HURT.
    for (int steps = 0; steps < 4; steps++) {
      x.write(4, 100 + steps, steps);
      sound();
      x.flip(0, 1, 1);
      sound();
      x.power();
      sound();
      x.patrol(3);
      sound();
    }
    // HURT: by the others; BROKEN: what is LOST is not looked at, until it is given up.
    x.fail(1);
    sound();
    x.write(0, 50, 4);
    x.write(5, 51, 4);
    sound();
    x.write(8, 52, 3);
    sound();
    x.power();
    sound();
    x.flip(2, 0, 1);
    sound();
    x.giveUp(0);
    sound();
    x.swap(1);
    sound();
    x.rebuild(3);
    sound();
    x.swap(2);
    x.swap(3);
    x.giveUp(0);
    x.giveUp(1);
    x.giveUp(2);
    sound();
    x.write(3, 1, 1);
    x.swap(0);
    x.swap(1);
    sound();
    x.power();
    sound();
    // The PLAN: at LIMIT, above it for PATIENCE tenths, and none.
    fresh();
    x.shelf(4, 1);
    for (int patience = 0; patience < 10; patience++) {
      for (int limit = 1; limit < 42; limit += 2) {
        x.fuse(limit, patience);
        sound();
      }
    }
  }

  private void knock() {
    says(26, "Knocks at the drawer: it is not opened, and who knocks is REFUSED (counted).");
    houses(16, 0);
    x.knock();
    houses(0, 0, 0, 0, 0, 0, 0, 0, 0, 0, 0, 0, 0, 0, -1, 0, 0, 1);
    x.shelf(3, 1);
    x.write(0, 1, 1);
    x.knock();
    houses(0, 3, 1, 2, 0, 0, 0, 0, 0, 0, 1, 0, 0, 1, 3, 0, 0, 2);
    notes(0, 1, 1);
    state(() -> x.read(0));
    x.power();
    x.knock();
    houses(3, 1);
    houses(16, 3);

    says(26, "Returns how many were REFUSED ever, with this.");
    due(1, x::knock);
    due(2, x::knock);
    x.shelf(3, 1);
    due(3, x::knock);
    x.off();
    due(4, x::knock);
    x.shelf(5, 8);
    due(5, x::knock);
    houses(16, 5);
    due(5, () -> x.house(16));
    due(6, x::knock);
  }

  private void digest() {
    says(27, "Computes a checksum.");
    long first = x.digest();
    due(first, x::digest);
    due(first, () -> new Staggershelf().digest());
    x.shelf(3, 1);
    long second = x.digest();
    due(false, () -> second == first);
    // Behind house(16) 61 more numbers follow.
    x.knock();
    due(second + BigInteger.valueOf(31).pow(61).longValue(), x::digest);

    says(27, "A number d starts with 6661; for each of the following numbers v, d becomes d * 31 + v, which wraps around as a 64-bit integer: house() of 0 to 16; DISK by DISK ofDisk() of 0 to 7; STRIPE by STRIPE, DISK by DISK cell() of 0 to 4; BLOCK by BLOCK ofBlock() of 0 to 3; note() of 0 to 2; draw() of 0 to 9; 1 if isSound(), otherwise 0.");
    List<Integer> numbers = new ArrayList<>();
    add(numbers, 0, 0, 0, 0, 0, 0, 0, 0, 0, 0, 0, 0, 0, -1, 0, 0, 0);
    add(numbers, -1, -1, -1);
    add(numbers, -1, -1, -1, -1, -1, -1, -1, -1, -1, -1);
    add(numbers, 1);
    due(checksum(numbers), x::digest);
    x.shelf(3, 1);
    x.write(0, 5, 4);
    x.write(1, 255, 1);
    x.flip(1, 0, 1);
    x.fail(2);
    x.knock();
    numbers.clear();
    add(numbers, 3, 1, 2, 0, 1, 2, 0, 1, 2, 2, 0, 0, 1, 3, 0, 0, 1);
    add(numbers, 0, 0, 0, 10, 3, 2, 0, 0);
    add(numbers, 0, 1, 0, 10, 3, 2, 0, 1);
    add(numbers, 1, 1, 0, 10, 3, 2, 0, 2);
    add(numbers, 5, 35, 0, -1, 5);
    add(numbers, 4, 35, 1, 0, -1);
    add(numbers, 0, 0, 1, 1, -1);
    add(numbers, 1, 0, 1, -1);
    add(numbers, 2, 0, 1, -1);
    add(numbers, 1, 255, 250);
    add(numbers, 30, 30, 30, 6, 6, 6, 6, 6, 6, 6);
    add(numbers, 1);
    due(checksum(numbers), x::digest);

    says(27, "Returns d.");
    int below = 0;
    for (int stripes = 1; stripes <= 8; stripes++) {
      fresh();
      x.shelf(3 + stripes % 3, stripes);
      x.write(stripes, 31 * stripes, 4);
      x.swap(2);
      due(checksum(numbersOf(x)), x::digest);
      below += x.digest() < 0 ? 1 : 0;
    }
    // It has wrapped around to both sides of 0.
    boolean isBoth = below > 0 && below < 8;
    due(true, () -> isBoth);
  }

  private static void add(List<Integer> numbers, int... more) {
    for (int number : more) {
      numbers.add(number);
    }
  }

  /** d in whole numbers of any size, cut to 64 bits at the end alone. */
  private static long checksum(List<Integer> numbers) {
    BigInteger d = BigInteger.valueOf(6661);
    for (int number : numbers) {
      d = d.multiply(BigInteger.valueOf(31)).add(BigInteger.valueOf(number));
    }
    return d.longValue();
  }

  private static List<Integer> numbersOf(Staggershelf shelf) {
    List<Integer> all = new ArrayList<>();
    for (int what = 0; what <= 16; what++) {
      all.add(shelf.house(what));
    }
    int disks = all.get(0);
    int stripes = all.get(1);
    int blocks = all.get(2);
    for (int disk = 0; disk < disks; disk++) {
      for (int what = 0; what <= 7; what++) {
        all.add(shelf.ofDisk(disk, what));
      }
    }
    for (int stripe = 0; stripe < stripes; stripe++) {
      for (int disk = 0; disk < disks; disk++) {
        for (int what = 0; what <= 4; what++) {
          all.add(shelf.cell(disk, stripe, what));
        }
      }
    }
    for (int block = 0; block < blocks; block++) {
      for (int what = 0; what <= 3; what++) {
        all.add(shelf.ofBlock(block, what));
      }
    }
    for (int what = 0; what <= 2; what++) {
      all.add(shelf.note(what));
    }
    for (int tenth = 0; tenth <= 9; tenth++) {
      all.add(shelf.draw(tenth));
    }
    all.add(shelf.isSound() ? 1 : 0);
    return all;
  }
}
