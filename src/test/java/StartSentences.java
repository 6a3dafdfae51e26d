import java.util.ArrayList;
import java.util.List;

/** Part 3 of the "Description" with the rules of exceptions and of what is asked: a test for each sentence. */
final class StartSentences extends Sentences {
  @Override
  void tell() {
    draw();
    fuse();
    order();
    plan();
    exceptions();
    asked();
  }

  /** The kinds of the disks 0 and on: PEAK, SPIN, IDLE of each. */
  private void kinds(int... all) {
    for (int disk = 0; disk < all.length / 3; disk++) {
      x.kind(disk, all[3 * disk], all[3 * disk + 1], all[3 * disk + 2]);
    }
  }

  /** END of the plan, then the starts and the places in it, by disks. */
  private void planned(int end, int[] starts, int[] places) {
    houses(13, end);
    disks(6, starts);
    disks(7, places);
  }

  private void draw() {
    says(DESCRIPTION, "A DISK draws nothing until it starts; from its start on PEAK for SPIN tenths, then IDLE for good (at first 10, 3 and 2 of all; a DISK that has FAILED draws, too).");
    x.shelf(5, 1);
    disks(3, 10, 10, 10, 10, 10);
    disks(4, 3, 3, 3, 3, 3);
    disks(5, 2, 2, 2, 2, 2);
    x.shelf(3, 1);
    // One at a time: the starts are 0, 2 and 7.
    x.fuse(21, 0);
    kinds(20, 2, 1, 20, 5, 0, 20, 1, 3);
    planned(8, new int[] {0, 2, 7}, new int[] {0, 1, 2});
    draws(0, 20, 20, 21, 21, 21, 21, 21, 21, 4, 4);
    draws(998, 4, 4);
    x.fail(0);
    draws(0, 20, 20, 21, 21, 21, 21, 21, 21, 4, 4);
    x.swap(0);
    x.off();
    draws(0, 20, 20, 21, 21, 21, 21, 21, 21, 4, 4);

    says(DESCRIPTION, "DRAW of a tenth is that of all DISKS together.");
    x.shelf(5, 1);
    x.fuse(90, 0);
    kinds(1, 1, 0, 2, 2, 9, 4, 3, 8, 8, 4, 7, 16, 5, 6);
    draws(0, 31, 30, 9 + 28, 17 + 24, 24 + 16, 30, 30);
    x.shelf(3, 1);
    draws(0, 7, 6, 9 + 4, 17, 17);
  }

  private void fuse() {
    says(DESCRIPTION, "The FUSE (LIMIT 30, PATIENCE 0 at first) trips, if DRAW is above LIMIT in more than PATIENCE tenths one behind the other.");
    x.shelf(3, 1);
    due(0, () -> x.wouldBoot(0));
    x.shelf(4, 1);
    due(-1, () -> x.wouldBoot(0));
    // 31 at the tenth 0 alone.
    x.kind(0, 1, 1, 0);
    due(-1, () -> x.wouldBoot(0));
    x.kind(0, 10, 1, 1);
    due(-1, () -> x.wouldBoot(0));
    due(30, () -> x.fuse(40, 0));
    due(0, () -> x.wouldBoot(0));
    x.fuse(39, 0);
    due(-1, () -> x.wouldBoot(0));
    // 40 for three tenths.
    x.kind(0, 10, 3, 2);
    x.fuse(39, 2);
    due(-1, () -> x.wouldBoot(0));
    x.fuse(39, 3);
    due(0, () -> x.wouldBoot(0));
    // By a gap of 4 three tenths above 9 come three times; by a gap of 3 they are one behind the other.
    x.shelf(3, 1);
    x.fuse(9, 3);
    due(8, () -> x.wouldBoot(4));
    due(-1, () -> x.wouldBoot(3));
    x.fuse(9, 8);
    due(-1, () -> x.wouldBoot(3));
    x.fuse(9, 9);
    due(6, () -> x.wouldBoot(3));
    // For good is more than any PATIENCE.
    x.fuse(6, 9);
    due(8, () -> x.wouldBoot(4));
    x.fuse(5, 9);
    due(-1, () -> x.wouldBoot(20));
    x.shelf(5, 1);
    x.fuse(12, 9);
    for (int disk = 0; disk < 5; disk++) {
      x.kind(disk, 1, 9, disk < 4 ? 2 : 5);
    }
    due(-1, () -> x.wouldBoot(20));
    x.fuse(13, 9);
    due(80, () -> x.wouldBoot(20));
  }

  private void order() {
    says(DESCRIPTION, "By an ORDER of the DISKS: each one starts at the least tenth (0 or later, not ahead of the one ahead of it, 60 at most), with which the FUSE does not trip by those that have started by the ORDER, it with them, ever; there is no such start, or there is.");
    x.shelf(5, 1);
    // 0 or later: three at a time.
    planned(6, new int[] {0, 0, 0, 3, 3}, new int[] {0, 1, 2, 3, 4});
    // Not ahead of the one ahead: by the order 0, 1, 2 the last one would have to wait, though at 0 there is room.
    x.shelf(3, 1);
    x.fuse(29, 0);
    kinds(10, 3, 2, 20, 4, 1, 10, 3, 2);
    planned(7, new int[] {0, 3, 0}, new int[] {0, 2, 1});
    // Ever: two of them would do, but idly three are one above LIMIT for good.
    kinds(2, 1, 6, 2, 1, 6, 2, 1, 9);
    x.fuse(20, 9);
    planned(-1, new int[] {-1, -1, -1}, new int[] {-1, -1, -1});
    x.fuse(21, 0);
    planned(1, new int[] {0, 0, 0}, new int[] {0, 1, 2});
    // One at a time, each for the longest SPIN; by a GAP the last one starts at 60, or later.
    x.shelf(5, 1);
    x.fuse(30, 0);
    kinds(30, 9, 0, 30, 9, 0, 30, 9, 0, 30, 9, 0, 30, 9, 0);
    planned(45, new int[] {0, 9, 18, 27, 36}, new int[] {0, 1, 2, 3, 4});
    draws(35, 30, 30);
    draws(44, 30, 0, 0);
    due(60, () -> x.wouldBoot(15));
    due(80, () -> x.wouldBoot(20));
    // What draws more idly than as it starts: above LIMIT behind the SPIN of the one that waits.
    x.shelf(3, 1);
    x.fuse(9, 1);
    kinds(6, 5, 0, 1, 3, 4, 1, 1, 0);
    planned(5, new int[] {0, 1, 1}, new int[] {0, 1, 2});
    // At LIMIT ahead of the start, above it for one tenth from the start on.
    kinds(9, 3, 0, 5, 9, 0, 1, 1, 0);
    planned(11, new int[] {0, 2, 2}, new int[] {0, 1, 2});
    // Above LIMIT for one tenth ahead of the start, and for one more: PATIENCE lasts that long, and no longer.
    x.fuse(4, 2);
    kinds(2, 3, 0, 6, 2, 0, 1, 2, 3);
    planned(3, new int[] {0, 0, 1}, new int[] {0, 1, 2});
    // There is no such start for the last one, whichever it is; or there is.
    x.shelf(5, 1);
    kinds(10, 3, 2, 10, 3, 2, 10, 3, 2, 10, 3, 2, 10, 3, 2);
    x.fuse(17, 0);
    houses(13, -1);
    x.fuse(18, 0);
    planned(15, new int[] {0, 3, 6, 9, 12}, new int[] {0, 1, 2, 3, 4});
    x.fuse(17, 2);
    houses(13, -1);
    x.fuse(17, 3);
    planned(3, new int[] {0, 0, 0, 0, 0}, new int[] {0, 1, 2, 3, 4});
  }

  private void plan() {
    says(DESCRIPTION, "END of it: the greatest start and SPIN together.");
    x.shelf(3, 1);
    houses(13, 3);
    // The first one spins longer than the last one's start and SPIN together.
    kinds(10, 9, 2, 10, 1, 2, 18, 2, 2);
    planned(9, new int[] {0, 0, 1}, new int[] {0, 1, 2});
    x.kind(2, 18, 8, 2);
    planned(9, new int[] {0, 0, 1}, new int[] {0, 1, 2});
    x.kind(2, 18, 9, 2);
    planned(10, new int[] {0, 0, 1}, new int[] {0, 1, 2});
    x.kind(0, 10, 8, 2);
    planned(9, new int[] {0, 8, 0}, new int[] {0, 2, 1});

    says(DESCRIPTION, "The PLAN is the ORDER with the least END of those in which all can start; of several that with the smaller DISK at the first place in which they differ; NONE without one, or without a SHELF.");
    houses(13, -1);
    draws(0, -1);
    x.fuse(90, 9);
    houses(13, -1);
    x.fuse(30, 0);
    x.shelf(4, 1);
    planned(6, new int[] {0, 0, 0, 3}, new int[] {0, 1, 2, 3});
    planTold();
  }

  private void planTold() {
    // In one order alone can all start: the one with the highest PEAK goes first, and so on.
    x.shelf(3, 1);
    x.fuse(20, 0);
    kinds(12, 2, 5, 16, 2, 4, 20, 2, 4);
    planned(6, new int[] {4, 2, 0}, new int[] {2, 1, 0});
    draws(0, 20, 20, 20, 20, 20, 20, 13);
    x.kind(0, 13, 2, 5);
    houses(13, -1);
    disks(7, -1, -1, -1);
    draws(0, -1);
    x.fuse(21, 0);
    planned(6, new int[] {4, 2, 0}, new int[] {2, 1, 0});
    // All orders can, with ENDS of their own: the least one, by the last of them.
    x.shelf(3, 1);
    x.fuse(30, 0);
    kinds(12, 2, 1, 18, 3, 4, 9, 4, 0);
    planned(5, new int[] {0, 2, 0}, new int[] {0, 2, 1});
    // Two with the same END that differ at the first place, and at the second one.
    kinds(10, 3, 2, 20, 4, 1, 10, 3, 2);
    x.fuse(29, 0);
    planned(7, new int[] {0, 3, 0}, new int[] {0, 2, 1});
    kinds(20, 4, 1, 10, 3, 2, 10, 3, 2);
    planned(7, new int[] {0, 4, 4}, new int[] {0, 1, 2});
    // The smaller disk at the first place, though the others start later then.
    kinds(10, 3, 2, 10, 3, 2, 10, 9, 2);
    x.fuse(30, 0);
    planned(9, new int[] {0, 0, 0}, new int[] {0, 1, 2});
    x.fuse(22, 0);
    planned(9, new int[] {0, 3, 0}, new int[] {0, 2, 1});
    // Above LIMIT for two tenths, PATIENCE 2: one more directly behind them would trip it.
    kinds(8, 3, 4, 9, 4, 0, 3, 2, 5, 7, 2, 2, 8, 5, 1);
    x.fuse(20, 2);
    x.shelf(5, 1);
    planned(6, new int[] {3, 0, 3, 0, 0}, new int[] {3, 0, 4, 1, 2});
  }

  private void exceptions() {
    says(DESCRIPTION, "A method that throws an exception changes nothing.");
    for (int state = 0; state < 4; state++) {
      List<Object> without = behind(state, false);
      List<Object> with = behind(state, true);
      due(without.toString(), with::toString);
    }

    says(DESCRIPTION, "If several exceptions apply, the one that is named first is thrown.");
    // Without a shelf there is no power either.
    bounds(() -> x.write(0, 256, 5), () -> x.write(0, 0, 4), () -> x.read(0), () -> x.fail(0), () -> x.swap(0));
    bounds(() -> x.flip(0, 0, 0), () -> x.giveUp(0), () -> x.kind(5, 0, 0, 10), () -> x.kind(-1, 31, 1, 0));
    bounds(() -> x.cell(0, 0, 5), () -> x.ofDisk(0, 8), () -> x.ofBlock(0, 4), () -> x.wouldLose(0, 0));
    argument(() -> x.rebuild(0), () -> x.patrol(9), () -> x.boot(21), () -> x.wouldBoot(-1));
    x.shelf(4, 2);
    x.fail(1);
    x.flip(2, 0, 1);
    argument(() -> x.boot(21), () -> x.boot(-1));
    namedFirst();
    x.off();
    namedFirst();
    argument(() -> x.rebuild(0), () -> x.rebuild(9), () -> x.patrol(0), () -> x.patrol(9));
    state(() -> x.write(0, 0, 4), () -> x.write(5, 0, 4), () -> x.giveUp(0), () -> x.giveUp(1));
  }

  /** A disk that has failed, a stripe that is broken: index, argument and state are wrong at once. */
  private void namedFirst() {
    bounds(() -> x.write(6, 256, 5), () -> x.write(-1, 0, 4), () -> x.write(6, 0, -1), () -> x.read(6));
    bounds(() -> x.flip(4, 0, 0), () -> x.flip(1, 2, 0), () -> x.flip(1, 2, 1), () -> x.flip(-1, -1, 256));
    bounds(() -> x.fail(4), () -> x.giveUp(2), () -> x.cell(4, 0, 5), () -> x.cell(0, 2, -1));
    bounds(() -> x.ofDisk(4, 8), () -> x.ofBlock(6, 4), () -> x.wouldLose(4, 4), () -> x.wouldLose(-1, -1));
    argument(() -> x.write(0, 256, 4), () -> x.write(0, 0, 5), () -> x.flip(1, 0, 0), () -> x.flip(1, 1, 256));
  }

  /** What all tells behind a state, and behind another shelf, without or with calls that throw. */
  private List<Object> behind(int state, boolean isWithThrows) {
    List<Object> answers = new ArrayList<>();
    fresh();
    if (state > 0) {
      x.kind(4, 9, 9, 1);
      x.fuse(24, 2);
      x.shelf(4, 2);
      fill(1, 2, 3, 4, 5, 6);
      x.patrol(1);
      x.fail(1);
      x.flip(2, 0, 1);
    }
    if (state == 2) {
      x.write(5, 77, 2);
    }
    if (state == 3) {
      x.write(5, 77, 1);
      x.fuse(7, 9);
    }
    if (isWithThrows) {
      int thrown = 0;
      for (Check.Call call : throwing(state)) {
        thrown += Check.answerOf(call).startsWith("throws.") ? 1 : 0;
      }
      int all = thrown;
      due(throwing(state).size(), () -> all);
    }
    answers.add(x.digest());
    answers.add(Check.answerOf(() -> x.boot(20)));
    answers.add(x.digest());
    answers.add(Check.answerOf(() -> x.patrol(1)));
    answers.add(Check.answerOf(() -> x.rebuild(1)));
    x.shelf(5, 8);
    answers.add(x.digest());
    answers.add(x.fuse(30, 0));
    answers.add(x.knock());
    return answers;
  }

  private List<Check.Call> throwing(int state) {
    List<Check.Call> all = new ArrayList<>(List.of(
        () -> x.shelf(2, 1), () -> x.shelf(3, 9), () -> x.write(6, 0, 4), () -> x.write(-1, 0, 0), () -> x.read(6),
        () -> x.fail(4), () -> x.swap(4), () -> x.swap(-1), () -> x.flip(4, 0, 1), () -> x.flip(0, 2, 1)));
    all.addAll(List.of(
        () -> x.rebuild(0), () -> x.rebuild(9), () -> x.patrol(0), () -> x.patrol(9), () -> x.giveUp(2),
        () -> x.kind(5, 1, 1, 1), () -> x.kind(4, 31, 1, 1), () -> x.kind(4, 1, 10, 1), () -> x.kind(0, 1, 1, 10)));
    all.addAll(List.of(
        () -> x.fuse(0, 1), () -> x.fuse(91, 1), () -> x.fuse(29, -1), () -> x.fuse(29, 10),
        () -> x.boot(-1), () -> x.boot(21), () -> x.cell(4, 0, 0), () -> x.cell(0, 0, 5), () -> x.ofDisk(4, 0),
        () -> x.ofDisk(0, 8)));
    all.addAll(List.of(
        () -> x.ofBlock(6, 0), () -> x.ofBlock(0, 4), () -> x.note(3), () -> x.house(17), () -> x.row(2),
        () -> x.draw(1000), () -> x.wouldBoot(21), () -> x.wouldLose(0, 4), () -> x.wouldLose(3, 3)));
    if (state == 0) {
      all.addAll(List.of(x::off, x::power, () -> x.boot(0), () -> x.wouldBoot(0), () -> x.rebuild(1), () -> x.patrol(1),
          () -> x.write(0, 1, 0), () -> x.read(0), () -> x.fail(0), () -> x.flip(0, 0, 1)));
    } else {
      all.addAll(List.of(() -> x.write(0, 9, 4), () -> x.write(0, 9, 1), () -> x.write(0, 9, 0), () -> x.fail(1),
          () -> x.write(5, 256, 1), () -> x.write(5, 1, 5), () -> x.flip(1, 0, 1), () -> x.flip(0, 0, 0),
          () -> x.giveUp(1)));
    }
    if (state == 1) {
      all.addAll(List.of(x::power, () -> x.boot(0), () -> x.boot(20)));
    }
    if (state > 1) {
      all.addAll(List.of(() -> x.write(5, 9, 4), () -> x.write(3, 9, 0), () -> x.read(3), () -> x.giveUp(0),
          () -> x.rebuild(1), () -> x.patrol(8)));
    }
    if (state == 3) {
      all.add(x::power);
    }
    return all;
  }

  private void asked() {
    says(DESCRIPTION, "What is asked changes nothing (knock() counts).");
    for (int state = 0; state < 6; state++) {
      fresh();
      if (state > 0) {
        x.shelf(3, 2);
        fill(1, 2, 3, 4);
      }
      if (state > 1) {
        x.flip(1, 0, 1);
        x.fail(2);
      }
      if (state > 2) {
        x.swap(2);
      }
      if (state > 3) {
        x.rebuild(2);
        x.write(3, 9, 2);
      }
      if (state > 4) {
        x.fuse(1, 0);
      }
      askAll();
    }
    cells(0, 2, 0, 1, 1);
    notes(3, 9, 3 ^ 9);
  }

  private void askAll() {
    long before = x.digest();
    int disks = x.house(0);
    for (int disk = 0; disk < disks; disk++) {
      for (int stripe = 0; stripe < x.house(1); stripe++) {
        for (int what = 0; what < 5; what++) {
          x.cell(disk, stripe, what);
        }
        x.row(stripe);
      }
      x.wouldLose(disk, (disk + 1) % disks);
    }
    for (int block = 0; block < x.house(2); block++) {
      x.ofBlock(block, 3);
    }
    if (disks > 0) {
      x.wouldBoot(0);
      x.wouldBoot(20);
    }
    x.draw(5);
    x.isSound();
    due(before, x::digest);
    int[] houses = new int[17];
    for (int what = 0; what < 17; what++) {
      houses[what] = x.house(what);
    }
    houses[16]++;
    due(houses[16], x::knock);
    houses(0, houses);
  }
}
