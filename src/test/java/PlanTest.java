import java.util.Random;

/** Starts and the fuse: kinds and fuses drawn by a fixed seed, the plan against all orders tried slowly. */
public final class PlanTest {
  /** LIMIT, PATIENCE, then PEAK, SPIN, IDLE of each disk: what is above LIMIT ends just ahead of a start. */
  private static final int[][] RUNS_AHEAD = {
    {20, 2, 8, 3, 4, 9, 4, 0, 3, 2, 5, 7, 2, 2, 8, 5, 1},
    {7, 1, 1, 1, 4, 4, 4, 2, 5, 2, 0, 4, 2, 0, 5, 1, 1},
    {27, 4, 4, 3, 1, 5, 1, 7, 27, 9, 4, 10, 5, 8, 17, 5, 2},
    {12, 1, 11, 1, 1, 1, 1, 2, 7, 1, 2, 8, 2, 1, 11, 1, 0},
    {24, 1, 11, 2, 1, 12, 1, 1, 8, 1, 4, 9, 2, 5, 2, 1, 4},
    {21, 1, 7, 3, 0, 10, 2, 4, 9, 2, 4, 4, 1, 7, 7, 2, 0},
    {25, 3, 9, 3, 1, 9, 4, 0, 4, 2, 7, 9, 1, 4, 10, 4, 4},
    {6, 7, 3, 8, 1, 7, 5, 1, 7, 4, 1, 2, 4, 3},
  };

  public static void main(String[] args) {
    int rounds = args.length > 0 ? Integer.parseInt(args[0]) : 2500;
    for (int[] kinds : RUNS_AHEAD) {
      compareRunAhead(kinds);
    }
    Random random = new Random(6661);
    for (int round = 0; round < rounds && Check.isClean(); round++) {
      Staggershelf program = new Staggershelf();
      Model model = new Model();
      int disks = 3 + random.nextInt(3);
      program.shelf(disks, 1);
      model.shelf(disks, 1);
      int mostPeak = 5 + random.nextInt(26);
      int mostSpin = 1 + random.nextInt(9);
      int mostIdle = random.nextInt(10);
      int most = 1;
      int idles = 0;
      for (int disk = 0; disk < disks; disk++) {
        int peak = 1 + random.nextInt(mostPeak);
        int spin = 1 + random.nextInt(mostSpin);
        int idle = random.nextInt(mostIdle + 1);
        program.kind(disk, peak, spin, idle);
        model.kind(disk, peak, spin, idle);
        most = Math.max(most, peak);
        idles += idle;
      }
      // Fuses so thin that the order counts, and some that no order passes; a little patience, so
      // that runs of tenths above the limit end just ahead of a start.
      int least = random.nextBoolean() ? Math.max(most, idles) - 2 : idles;
      int limit = Math.max(1, Math.min(90, least + random.nextInt(20)));
      int patience = random.nextInt(3) == 0 ? random.nextInt(10) : random.nextInt(3);
      program.fuse(limit, patience);
      model.fuse(limit, patience);
      compare("round " + round + " ", program, model);
    }
    Check.end("PlanTest");
  }

  private static void compareRunAhead(int[] kinds) {
    Staggershelf program = new Staggershelf();
    Model model = new Model();
    int disks = kinds.length / 3;
    program.shelf(disks, 1);
    model.shelf(disks, 1);
    for (int disk = 0; disk < disks; disk++) {
      int at = 2 + 3 * disk;
      program.kind(disk, kinds[at], kinds[at + 1], kinds[at + 2]);
      model.kind(disk, kinds[at], kinds[at + 1], kinds[at + 2]);
    }
    program.fuse(kinds[0], kinds[1]);
    model.fuse(kinds[0], kinds[1]);
    compare("runs ahead ", program, model);
  }

  private static void compare(String label, Staggershelf program, Model model) {
    Check.same(label + "house(13)", model.house(13), () -> program.house(13));
    for (int disk = 0; disk < model.n; disk++) {
      int d = disk;
      Check.same(label + "ofDisk(" + d + ", 6)", model.ofDisk(d, 6), () -> program.ofDisk(d, 6));
      Check.same(label + "ofDisk(" + d + ", 7)", model.ofDisk(d, 7), () -> program.ofDisk(d, 7));
    }
    for (int gap = 0; gap <= 20; gap++) {
      int g = gap;
      Check.same(label + "wouldBoot(" + g + ")", model.wouldBoot(g), () -> program.wouldBoot(g));
    }
    for (int tenth = 0; tenth <= 60; tenth++) {
      int t = tenth;
      Check.same(label + "draw(" + t + ")", model.draw(t), () -> program.draw(t));
    }
    Check.same(label + "isSound()", true, program::isSound);
  }
}
