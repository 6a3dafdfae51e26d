/** The conventions, and the parts 1 and 2 of the "Description": a test for each sentence. */
final class DescriptionSentences extends Sentences {
  @Override
  void tell() {
    numbers();
    shelf();
    cells();
    states();
    reading();
    writing();
    power();
    failing();
    rounds();
    givingUp();
  }

  private void numbers() {
    says(DESCRIPTION, "An object is used for at most 512 calls after it has been made; what later calls answer is free.");
    x.shelf(3, 1);
    for (int call = 2; call < 511; call++) {
      x.write(call % 2, call % 256, 4);
    }
    due(510 % 256, () -> x.read(0));
    due(509 % 256, () -> x.read(1));

    says(DESCRIPTION, "Whole numbers; what is divided is rounded down (all of that is 0 or more).");
    x.shelf(4, 3);
    blocks(1, 0, 0, 0, 1, 1, 1, 2, 2, 2);

    says(DESCRIPTION, "NONE is -1.");
    notes(-1, -1, -1);
    houses(13, -1);
    draws(0, -1);
    x.shelf(3, 1);
    due(-1, () -> x.cell(0, 0, 3));
    x.swap(1);
    due(-1, () -> x.cell(1, 0, 1));
    x.swap(2);
    due(-1, () -> x.read(0));
    blocks(3, -1, -1);
    cells(0, 4, 0, -1, -1);
    x.fuse(1, 0);
    disks(6, -1, -1, -1);
    disks(7, -1, -1, -1);
    due(-1, () -> x.wouldBoot(0));
    x.off();
    due(-1, () -> x.boot(0));

    says(DESCRIPTION, "A set is the sum of 2^k for the number k of each.");
    x.shelf(5, 5);
    x.swap(1);
    x.swap(4);
    due(2 + 16, () -> x.giveUp(0));
    due(16, () -> x.giveUp(1));
    due(2, () -> x.giveUp(4));
    for (int disk = 0; disk < 5; disk++) {
      x.fail(disk);
    }
    due(2 + 4 + 8 + 16, () -> x.giveUp(0));
    due(1 + 2 + 8 + 16, () -> x.giveUp(2));
    due(1 + 2 + 4 + 8, () -> x.giveUp(4));

    says(DESCRIPTION, "XOR is that of binary digits.");
    x.shelf(4, 1);
    fill(0b11001010, 0b10100110, 0b11111111);
    due(0b10010011, () -> x.cell(0, 0, 0));
    due(0b11000101, () -> x.flip(1, 0, 0b00001111));
    due(0b11001010, () -> x.read(0));

    says(DESCRIPTION, "X by X is by rising numbers.");
    x.shelf(4, 2);
    blocks(0, 1, 2, 3, 0, 2, 3);
    x.flip(2, 1, 1);
    x.flip(2, 0, 1);
    x.rebuild(1);
    cells(0, 2, 0, 0, 0, 0);
    cells(1, 2, 0, 0, 1, 0);

    says(DESCRIPTION, "«Of several the first one» is the one with the smallest number.");
    x.shelf(5, 1);
    disks(7, 0, 1, 2, 3, 4);
    x.fuse(90, 9);
    disks(7, 0, 1, 2, 3, 4);
  }

  private void shelf() {
    says(DESCRIPTION, "The SHELF has n DISKS (3 to 5), numbered from 0, and 1 to 8 STRIPES.");
    argument(() -> x.shelf(2, 1), () -> x.shelf(6, 8), () -> x.shelf(3, 0), () -> x.shelf(5, 9));
    for (int disks = 3; disks <= 5; disks++) {
      for (int stripes = 1; stripes <= 8; stripes++) {
        shelfOf(disks, stripes);
      }
    }

    says(DESCRIPTION, "A STRIPE has a CELL on each DISK; the CELL on the DISK STRIPE modulo n is its SUM CELL, the other ones are its DATA CELLS, by rising DISKS.");
    x.shelf(3, 8);
    rows("+..", ".+.", "..+", "+..", ".+.", "..+", "+..", ".+.");
    cells(0, 3, -1, 0, 1);
    cells(1, 3, 2, -1, 3);
    cells(2, 3, 4, 5, -1);
    cells(3, 3, -1, 6, 7);
    cells(7, 3, 14, -1, 15);
    x.shelf(4, 8);
    rows("+...", ".+..", "..+.", "...+", "+...", ".+..", "..+.", "...+");
    cells(2, 3, 6, 7, -1, 8);
    x.shelf(5, 8);
    rows("+....", ".+...", "..+..", "...+.", "....+", "+....", ".+...", "..+..");
    cells(4, 3, 16, 17, 18, 19, -1);
    cells(5, 3, -1, 20, 21, 22, 23);

    says(DESCRIPTION, "BLOCKS are numbered from 0: those of the STRIPE 0, one in each DATA CELL, then those of the STRIPE 1, and so on.");
    for (int disks = 3; disks <= 5; disks++) {
      for (int stripes = 1; stripes <= 8; stripes += 7) {
        blocksOf(disks, stripes);
      }
    }

    says(DESCRIPTION, "VALUES are 0 to 255.");
    x.shelf(3, 1);
    argument(() -> x.write(0, -1, 4), () -> x.write(0, 256, 4));
    for (int v : new int[] {0, 1, 127, 128, 254, 255}) {
      x.write(0, v, 4);
      x.write(1, 255 - v, 4);
      due(v, () -> x.read(0));
      due(255 - v, () -> x.read(1));
      due(255, () -> x.cell(0, 0, 0));
    }
    due(0, () -> x.flip(0, 0, 255));
  }

  private void shelfOf(int disks, int stripes) {
    fresh();
    x.shelf(disks, stripes);
    houses(0, disks, stripes);
    due(0, () -> x.ofDisk(disks - 1, 0));
    due(disks, () -> x.row(stripes - 1).length());
    bounds(() -> x.ofDisk(disks, 0), () -> x.ofDisk(-1, 0), () -> x.row(stripes), () -> x.row(-1));
    bounds(() -> x.cell(disks, 0, 0), () -> x.cell(0, stripes, 0));
  }

  private void blocksOf(int disks, int stripes) {
    fresh();
    x.shelf(disks, stripes);
    int number = 0;
    for (int t = 0; t < stripes; t++) {
      for (int d = 0; d < disks; d++) {
        int disk = d;
        int stripe = t;
        int block = number;
        if (d != t % disks) {
          due(block, () -> x.cell(disk, stripe, 3));
          due(disk, () -> x.ofBlock(block, 0));
          due(stripe, () -> x.ofBlock(block, 1));
          number++;
        }
      }
    }
    int behind = number;
    due(0, () -> x.read(behind - 1));
    bounds(() -> x.read(behind), () -> x.read(-1));
  }

  private void cells() {
    says(DESCRIPTION, "A CELL has a VALUE and a MARK; the MARK that fits a VALUE on a STRIPE is (7 * VALUE + STRIPE) modulo 256.");
    for (int stripe = 0; stripe < 8; stripe++) {
      for (int from = 0; from < 256; from += 64) {
        marksOf(stripe, from);
      }
    }
    // 7 * 36 + 3 is 255, 7 * 36 + 4 is 256; 7 * 255 + 7 is 7 * 256.
    fresh();
    x.shelf(5, 8);
    x.write(12, 36, 4);
    due(255, () -> x.cell(0, 3, 1));
    x.write(16, 36, 4);
    due(0, () -> x.cell(0, 4, 1));
    x.write(28, 255, 4);
    due(0, () -> x.cell(0, 7, 1));

    says(DESCRIPTION, "To LAY a VALUE into a CELL is to put it there with the MARK that fits.");
    x.shelf(3, 2);
    x.write(2, 100, 4);
    cells(1, 0, 100, 100, 0);
    cells(1, 1, 701 % 256, 701 % 256, 1);
    x.flip(0, 1, 9);
    x.patrol(2);
    cells(1, 0, 100, 100, 0);
    cells(1, 1, 701 % 256, 701 % 256, 1);
    x.swap(0);
    x.swap(1);
    x.giveUp(1);
    cells(1, 0, 0, 0, 0);
    cells(1, 1, 1, 1, 1);
    cells(1, 2, 0, 0, 0);

    says(DESCRIPTION, "A CELL is BAD, if its DISK has FAILED, or its MARK does not fit.");
    for (int bits = 1; bits < 256; bits++) {
      badBy(bits);
    }
    fresh();
    x.shelf(3, 2);
    x.fail(1);
    cells(0, 2, 0, 1, 0);
    cells(1, 2, 0, 1, 0);
    cells(1, 1, 1, 1, 1);
    x.swap(1);
    cells(0, 2, 0, 1, 0);
    cells(1, 2, 0, 1, 0);
    x.rebuild(1);
    cells(0, 2, 0, 0, 0);
    cells(1, 2, 0, 1, 0);

    says(DESCRIPTION, "At first all CELLS have 0 LAID into them.");
    x.shelf(5, 8);
    for (int t = 0; t < 8; t++) {
      cells(t, 0, 0, 0, 0, 0, 0);
      cells(t, 1, t, t, t, t, t);
      cells(t, 2, 0, 0, 0, 0, 0);
    }
  }

  private void marksOf(int stripe, int from) {
    fresh();
    x.shelf(3, 8);
    int block = 2 * stripe;
    int disk = x.ofBlock(block, 0);
    for (int value = from; value < from + 64; value++) {
      x.write(block, value, 4);
      int mark = (7 * value + stripe) % 256;
      due(mark, () -> x.cell(disk, stripe, 1));
      due(0, () -> x.cell(disk, stripe, 2));
    }
  }

  private void badBy(int bits) {
    fresh();
    x.shelf(3, 1);
    x.write(0, 77, 4);
    x.flip(1, 0, bits);
    cells(0, 2, 0, 1, 0);
    x.flip(1, 0, bits);
    cells(0, 2, 0, 0, 0);
  }

  private void states() {
    says(DESCRIPTION, "A STRIPE is WHOLE, if no CELL of it is BAD; HURT, if one is; BROKEN, if two or more are.");
    x.shelf(5, 2);
    houses(5, 0, 0, 0);
    x.flip(0, 0, 1);
    houses(5, 1, 1, 0);
    x.flip(1, 0, 1);
    houses(5, 2, 0, 1);
    x.flip(2, 0, 1);
    x.flip(3, 0, 1);
    houses(5, 4, 0, 1);
    x.flip(4, 0, 1);
    houses(5, 5, 0, 1);
    x.flip(4, 1, 1);
    houses(5, 6, 1, 1);
    x.flip(0, 1, 1);
    houses(5, 7, 0, 2);

    says(DESCRIPTION, "A BLOCK is LOST, if its CELL is BAD and its STRIPE BROKEN.");
    x.shelf(4, 1);
    x.flip(1, 0, 1);
    blocks(2, 0, 0, 0);
    houses(8, 0);
    x.flip(0, 0, 1);
    blocks(2, 1, 0, 0);
    houses(8, 1);
    x.flip(0, 0, 1);
    x.flip(2, 0, 1);
    blocks(2, 1, 1, 0);
    houses(8, 2);
    x.fail(3);
    blocks(2, 1, 1, 1);
    houses(8, 3);

    says(DESCRIPTION, "What a BAD CELL of a HURT STRIPE should have is the XOR of all others of that STRIPE.");
    x.shelf(5, 2);
    fill(1, 2, 4, 8, 16, 32, 64, 128);
    for (int disk = 0; disk < 5; disk++) {
      x.flip(disk, 0, 129);
      cells(0, 4, 15, 1, 2, 4, 8);
      x.flip(disk, 0, 129);
    }
    x.fail(3);
    cells(0, 4, 15, 1, 2, 4, 8);
    cells(1, 4, 16, 240, 32, 64, 128);
    x.swap(3);
    cells(0, 4, 15, 1, 2, 4, 8);
    x.flip(1, 1, 255);
    cells(1, 4, 16, -1, 32, -1, 128);

    says(DESCRIPTION, "To MEND it: that is LAID into it (nothing is, and it does not count as MENDED, if its DISK has FAILED).");
    x.shelf(3, 1);
    fill(40, 50);
    x.flip(2, 0, 7);
    due(1, () -> x.patrol(1));
    cells(0, 0, 40 ^ 50, 40, 50);
    cells(0, 2, 0, 0, 0);
    houses(11, 1);
    x.swap(0);
    due(1, () -> x.rebuild(1));
    cells(0, 0, 40 ^ 50, 40, 50);
    cells(0, 2, 0, 0, 0);
    houses(11, 2);
    x.flip(1, 0, 3);
    x.fail(1);
    due(0, () -> x.patrol(1));
    due(0, () -> x.rebuild(1));
    due(40, () -> x.read(0));
    x.write(1, 9, 4);
    cells(0, 0, 40 ^ 9, 40 ^ 3, 9);
    cells(0, 1, 7 * (40 ^ 9) % 256, 280 % 256, 63);
    cells(0, 2, 0, 1, 0);
    houses(11, 2);
  }

  private void reading() {
    says(DESCRIPTION, "To READ a BLOCK: the VALUE of its CELL; if that is BAD: what it should have, and it is MENDED; LOST: NONE.");
    x.shelf(4, 1);
    fill(11, 22, 33);
    due(22, () -> x.read(1));
    houses(10, 1, 0);
    x.flip(2, 0, 5);
    due(11, () -> x.read(0));
    cells(0, 2, 0, 0, 1, 0);
    houses(10, 2, 0);
    due(22, () -> x.read(1));
    cells(0, 2, 0, 0, 0, 0);
    cells(0, 0, 11 ^ 22 ^ 33, 11, 22, 33);
    houses(10, 3, 1);
    x.flip(0, 0, 5);
    due(33, () -> x.read(2));
    cells(0, 2, 1, 0, 0, 0);
    houses(10, 4, 1);
    x.flip(1, 0, 5);
    due(-1, () -> x.read(0));
    due(22, () -> x.read(1));
    cells(0, 0, 11 ^ 22 ^ 33 ^ 5, 11 ^ 5, 22, 33);
    houses(10, 6, 1);
    x.flip(0, 0, 5);
    x.flip(1, 0, 5);
    x.fail(3);
    due(33, () -> x.read(2));
    cells(0, 2, 0, 0, 0, 1);
    houses(10, 7, 1);
  }

  private void writing() {
    says(DESCRIPTION, "To WRITE a VALUE into a BLOCK: (its STRIPE is not BROKEN) first the BAD CELL of the STRIPE, if there is one, is MENDED.");
    x.shelf(4, 1);
    fill(1, 2, 4);
    for (int disk = 0; disk < 4; disk++) {
      x.flip(disk, 0, 96);
      x.write(1, 2, 4);
      cells(0, 0, 7, 1, 2, 4);
      cells(0, 2, 0, 0, 0, 0);
      houses(11, disk + 1);
    }
    x.write(1, 8, 4);
    houses(11, 4);
    x.fail(3);
    x.write(0, 16, 4);
    houses(11, 4);
    cells(0, 0, 16 ^ 8 ^ 4, 16, 8, 4);
    cells(0, 2, 0, 0, 0, 1);
    x.flip(2, 0, 1);
    state(() -> x.write(0, 1, 4), () -> x.write(0, 1, 0));

    says(DESCRIPTION, "Then four STEPS: 1 a NOTE keeps the BLOCK, the VALUE, and the SUM that is to be (what the SUM CELL has, or should have, XOR what the BLOCK reads, XOR the VALUE); 2 VALUE is LAID into its CELL; 3 that SUM into the SUM CELL (2 and 3: not on a DISK that has FAILED); 4 the NOTE is gone.");
    step(1, new int[] {1, 7, 3 ^ 9 ^ 5 ^ 9 ^ 7}, 3 ^ 9 ^ 5, 3, 9, 5);
    step(2, new int[] {1, 7, 3 ^ 7 ^ 5}, 3 ^ 9 ^ 5, 3, 7, 5);
    step(3, new int[] {1, 7, 3 ^ 7 ^ 5}, 3 ^ 7 ^ 5, 3, 7, 5);
    step(4, new int[] {-1, -1, -1}, 3 ^ 7 ^ 5, 3, 7, 5);
    fresh();
    x.shelf(4, 1);
    fill(3, 9, 5);
    x.fail(0);
    x.write(1, 7, 3);
    notes(1, 7, 3 ^ 7 ^ 5);
    cells(0, 0, 3 ^ 9 ^ 5, 3, 7, 5);
    x.shelf(4, 1);
    fill(3, 9, 5);
    x.fail(2);
    x.write(1, 7, 3);
    notes(1, 7, 3 ^ 7 ^ 5);
    cells(0, 0, 3 ^ 7 ^ 5, 3, 9, 5);
    x.shelf(4, 1);
    fill(3, 9, 5);
    x.fail(3);
    x.write(1, 7, 3);
    notes(1, 7, 3 ^ 7 ^ 5);
    cells(0, 0, 3 ^ 7 ^ 5, 3, 7, 5);

    says(DESCRIPTION, "The power may fail behind each of these STEPS, or ahead of the first one (behind the MENDING): then nothing more is done, and the power is OFF.");
    for (int n = 0; n <= 4; n++) {
      int steps = n;
      fresh();
      x.shelf(3, 1);
      fill(6, 3);
      x.flip(0, 0, 1);
      due(steps > 0, () -> x.write(0, 8, steps));
      houses(3, steps == 4 ? 1 : 0);
      houses(9, steps > 0 ? 3 : 2, 0, 1, steps == 4 ? 0 : 1);
      cells(0, 0, steps > 2 ? 8 ^ 3 : 6 ^ 3, steps > 1 ? 8 : 6, 3);
      cells(0, 2, 0, 0, 0);
      due(steps > 0 && steps < 4 ? 0 : -1, () -> x.note(0));
    }
  }

  private void step(int steps, int[] noted, int... values) {
    fresh();
    x.shelf(4, 1);
    fill(3, 9, 5);
    x.write(1, 7, steps);
    notes(noted[0], noted[1], noted[2]);
    cells(0, 0, values);
    cells(0, 2, 0, 0, 0, 0);
  }

  private void power() {
    says(DESCRIPTION, "As the power comes ON: if there is a NOTE, the STEPS 2 to 4 are done (again).");
    for (int steps = 1; steps <= 3; steps++) {
      noteDone(steps, true);
      noteDone(steps, false);
    }
    // Without a note nothing is done: what the others had turned to stays.
    fresh();
    x.shelf(3, 1);
    fill(6, 3);
    x.write(0, 8, 0);
    x.flip(2, 0, 4);
    x.power();
    cells(0, 0, 6 ^ 3, 6, 7);
    houses(9, 2, 0, 0, 1);
    // Not on a disk that has failed by then; and on the new disk of a swap.
    x.patrol(1);
    x.write(0, 9, 1);
    x.fail(1);
    x.power();
    cells(0, 0, 9 ^ 3, 6, 3);
    notes(-1, -1, -1);
    due(9, () -> x.read(0));
    x.swap(1);
    x.rebuild(1);
    x.write(1, 64, 2);
    x.fail(0);
    x.boot(0);
    cells(0, 0, 9 ^ 3, 9, 64);
    notes(-1, -1, -1);
    x.swap(0);
    x.rebuild(1);
    x.write(1, 65, 3);
    x.swap(0);
    x.swap(2);
    x.power();
    cells(0, 0, 9 ^ 65, 9, 65);
    cells(0, 2, 0, 0, 0);
  }

  private void noteDone(int steps, boolean isByPlan) {
    fresh();
    x.shelf(3, 2);
    fill(1, 2, 3, 4);
    x.write(3, 200, steps);
    x.flip(2, 1, 5);
    x.flip(1, 1, 5);
    due(isByPlan ? 3 : 0, () -> isByPlan ? x.power() : x.boot(0));
    notes(-1, -1, -1);
    cells(1, 0, 3, 3 ^ 200, 200);
    cells(1, 2, 0, 0, 0);
    houses(9, 5, 0, 0, 1);
    sound();
  }

  private void failing() {
    says(DESCRIPTION, "A DISK that FAILS stays so until it is SWAPPED: the new one has not FAILED, and in each CELL the VALUE 0 and no MARK (NONE, which never fits).");
    x.shelf(3, 3);
    fill(1, 2, 3, 4, 5, 6);
    x.fail(2);
    x.rebuild(3);
    x.patrol(3);
    x.write(1, 20, 4);
    x.read(1);
    x.off();
    x.power();
    x.flip(0, 0, 1);
    x.giveUp(0);
    disks(0, 0, 0, 1);
    cells(0, 0, 1, 1, 2);
    x.swap(2);
    disks(0, 0, 0, 0);
    for (int t = 0; t < 3; t++) {
      int stripe = t;
      due(0, () -> x.cell(2, stripe, 0));
      due(-1, () -> x.cell(2, stripe, 1));
      due(1, () -> x.cell(2, stripe, 2));
    }
    houses(4, 0, 3);
    for (int bits = 1; bits < 256; bits++) {
      neverFits(bits);
    }
  }

  private void neverFits(int bits) {
    fresh();
    x.shelf(3, 1);
    x.swap(1);
    due(bits, () -> x.flip(1, 0, bits));
    due(-1, () -> x.cell(1, 0, 1));
    due(1, () -> x.cell(1, 0, 2));
  }

  private void rounds() {
    says(DESCRIPTION, "To REBUILD some STRIPES: from the one behind that at which the last REBUILDING ended (from 0 at first, and behind a SWAP; behind the last one comes the first one again), STRIPE by STRIPE, the BAD CELL of a HURT one is MENDED.");
    x.shelf(4, 5);
    houses(14, 0);
    x.swap(1);
    due(2, () -> x.rebuild(2));
    houses(14, 2);
    rows("+...", ".+..", ".?+.", ".?.+", "+?..");
    due(2, () -> x.rebuild(2));
    houses(14, 4);
    x.flip(2, 1, 1);
    due(1, () -> x.rebuild(1));
    houses(14, 0);
    rows("+...", ".+?.", "..+.", "...+", "+...");
    due(0, () -> x.rebuild(1));
    due(1, () -> x.rebuild(1));
    houses(14, 2);
    x.flip(0, 0, 1);
    x.flip(0, 2, 1);
    x.flip(3, 2, 1);
    due(1, () -> x.rebuild(4));
    houses(14, 1);
    rows("+...", ".+..", "?.+?", "...+", "+...");
    due(0, () -> x.rebuild(8));
    houses(14, 4);
    x.swap(3);
    houses(14, 0);
    due(1, () -> x.rebuild(1));
    houses(14, 1);
    x.swap(0);
    houses(14, 0);
    x.fail(2);
    due(0, () -> x.rebuild(5));
    houses(14, 0);
    due(0, () -> x.rebuild(3));
    houses(14, 3);
    x.off();
    x.power();
    houses(14, 3);

    says(DESCRIPTION, "A PATROL does the same, with a place of its own (that a SWAP leaves).");
    x.shelf(4, 5);
    houses(15, 0);
    x.swap(1);
    due(2, () -> x.patrol(2));
    houses(14, 0, 2);
    rows("+...", ".+..", ".?+.", ".?.+", "+?..");
    due(0, () -> x.rebuild(1));
    houses(14, 1, 2);
    x.swap(1);
    houses(14, 0, 2);
    due(3, () -> x.patrol(3));
    houses(14, 0, 0);
    rows("+?..", ".?..", "..+.", "...+", "+...");
    due(2, () -> x.patrol(8));
    houses(14, 0, 3);
    houses(11, 7);
    x.flip(0, 3, 1);
    x.flip(1, 3, 1);
    x.fail(2);
    due(0, () -> x.patrol(3));
    houses(14, 0, 1);
    x.off();
    x.power();
    houses(14, 0, 1);
  }

  private void givingUp() {
    says(DESCRIPTION, "To GIVE UP a STRIPE that is BROKEN: 0 is LAID into each BAD DATA CELL, then into the SUM CELL the XOR of all VALUES of its DATA CELLS (a BAD one on a DISK that has FAILED stays so, and counts as 0; a SUM CELL there, too, is left as it is).");
    // Two data cells bad, the sum cell good.
    x.shelf(5, 2);
    fill(1, 2, 4, 8, 16, 32, 64, 128);
    x.flip(1, 0, 3);
    x.flip(4, 0, 3);
    x.giveUp(0);
    cells(0, 0, 6, 0, 2, 4, 0);
    cells(0, 1, 42, 0, 14, 28, 0);
    cells(0, 2, 0, 0, 0, 0, 0);
    cells(1, 0, 16, 240, 32, 64, 128);
    // The sum cell bad, and one data cell.
    x.flip(1, 1, 3);
    x.flip(4, 1, 3);
    x.giveUp(1);
    cells(1, 0, 16, 112, 32, 64, 0);
    cells(1, 2, 0, 0, 0, 0, 0);
    // A bad data cell on a disk that has failed.
    x.fail(3);
    x.flip(2, 0, 8);
    x.giveUp(0);
    cells(0, 0, 0, 0, 0, 4, 0);
    cells(0, 2, 0, 0, 0, 1, 0);
    due(0, () -> x.read(2));
    // The sum cell on a disk that has failed, too: broken even then.
    x.fail(1);
    x.giveUp(1);
    cells(1, 0, 16, 112, 32, 64, 0);
    cells(1, 1, 113, 17, 225, 193, 1);
    rows("+x.x.", ".x.x.");
    // The sum cell on a disk that has failed, the data cell not: hurt then.
    x.shelf(3, 1);
    fill(5, 6);
    x.fail(0);
    x.flip(2, 0, 1);
    x.giveUp(0);
    cells(0, 0, 5 ^ 6, 5, 0);
    rows("x..");

    says(DESCRIPTION, "BLOCKS that were LOST count as WRITTEN with 0 then (house() does not count these).");
    x.shelf(4, 1);
    fill(7, 8, 9);
    x.swap(1);
    x.swap(3);
    x.giveUp(0);
    sound();
    houses(9, 3, 0, 0);
    due(0, () -> x.read(0));
    due(8, () -> x.read(1));
    due(0, () -> x.read(2));
    x.fail(1);
    x.fail(2);
    x.giveUp(0);
    sound();
    x.swap(2);
    x.giveUp(0);
    sound();
    due(0, () -> x.read(1));
    houses(9, 3, 4, 0);
  }
}
