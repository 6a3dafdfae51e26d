import java.util.Random;

/** Starts and the fuse: kinds and fuses drawn by a fixed seed, the plan against all orders tried slowly. */
public final class PlanTest {
  public static void main(String[] args) {
    int rounds = args.length > 0 ? Integer.parseInt(args[0]) : 1500;
    Random random = new Random(6661);
    for (int round = 0; round < rounds && Check.isClean(); round++) {
      Staggershelf program = new Staggershelf();
      Model model = new Model();
      int disks = 3 + random.nextInt(3);
      program.shelf(disks, 1);
      model.shelf(disks, 1);
      int mostPeak = 5 + random.nextInt(26);
      int mostSpin = 1 + random.nextInt(9);
      int mostIdle = random.nextInt(10);
      int most = 1;
      int idles = 0;
      for (int disk = 0; disk < disks; disk++) {
        int peak = 1 + random.nextInt(mostPeak);
        int spin = 1 + random.nextInt(mostSpin);
        int idle = random.nextInt(mostIdle + 1);
        program.kind(disk, peak, spin, idle);
        model.kind(disk, peak, spin, idle);
        most = Math.max(most, peak);
        idles += idle;
      }
      // Fuses so thin that the order counts, and some that no order passes.
      int limit = Math.max(1, Math.min(90, Math.max(most, idles) - 2 + random.nextInt(20)));
      int patience = random.nextInt(10) * random.nextInt(2);
      program.fuse(limit, patience);
      model.fuse(limit, patience);
      compare("round " + round + " ", program, model);
    }
    Check.end("PlanTest");
  }

  private static void compare(String label, Staggershelf program, Model model) {
    Check.same(label + "house(13)", model.house(13), () -> program.house(13));
    for (int disk = 0; disk < model.n; disk++) {
      int d = disk;
      Check.same(label + "ofDisk(" + d + ", 6)", model.ofDisk(d, 6), () -> program.ofDisk(d, 6));
      Check.same(label + "ofDisk(" + d + ", 7)", model.ofDisk(d, 7), () -> program.ofDisk(d, 7));
    }
    for (int gap = 0; gap <= 20; gap++) {
      int g = gap;
      Check.same(label + "wouldBoot(" + g + ")", model.wouldBoot(g), () -> program.wouldBoot(g));
    }
    for (int tenth = 0; tenth <= 60; tenth++) {
      int t = tenth;
      Check.same(label + "draw(" + t + ")", model.draw(t), () -> program.draw(t));
    }
    Check.same(label + "isSound()", true, program::isSound);
  }
}
