import java.util.Random;

/** Runs of up to 512 calls, drawn by a fixed seed, on the program and on the model: all must agree. */
public final class ModelTest {
  private static final int RUNS = 400;
  private static final int[] WILD = {
    Integer.MIN_VALUE, Integer.MIN_VALUE + 1, -1000, -7, -2, -1, 0, 1, 2, 3, 4, 5, 8, 9, 10, 16, 17, 20, 21, 30, 31,
    32, 33, 90, 91, 255, 256, 999, 1000, Integer.MAX_VALUE - 1, Integer.MAX_VALUE
  };

  private final Random random;
  private final Staggershelf program = new Staggershelf();
  private final Model model = new Model();
  private final String name;
  private boolean isHarsh;

  private ModelTest(int seed) {
    random = new Random(seed);
    name = "run " + seed + ", call ";
    isHarsh = seed % 4 == 3;
  }

  public static void main(String[] args) {
    int runs = args.length > 0 ? Integer.parseInt(args[0]) : RUNS;
    for (int seed = 0; seed < runs && Check.isClean(); seed++) {
      new ModelTest(seed).run();
    }
    Check.end("ModelTest");
  }

  private void run() {
    for (int i = 0; i < 250 && Check.isClean(); i++) {
      String label = name + i + " ";
      if (i == 0 && random.nextInt(10) > 0) {
        compare(label, 0);
      } else {
        compare(label, random.nextInt(90));
      }
      // The digest is the second call of each: what was thrown or only asked has changed nothing.
      Check.same(label + "digest()", model.digest(), program::digest);
    }
  }

  /** A number that mostly lies in a range, at times at its edges or far off. */
  private int in(int from, int to) {
    int way = random.nextInt(40);
    if (way == 0) {
      return WILD[random.nextInt(WILD.length)];
    }
    if (way == 1) {
      return from - 1;
    }
    if (way == 2) {
      return to + 1;
    }
    if (way <= 4) {
      return random.nextBoolean() ? from : to;
    }
    return from + random.nextInt(Math.max(1, to - from + 1));
  }

  private int disk() {
    return in(0, model.n - 1);
  }

  private int stripe() {
    return in(0, model.s - 1);
  }

  private int block() {
    return in(0, model.blocks().size() - 1);
  }

  private void compare(String label, int way) {
    if (way < 1) {
      int a = in(3, 5);
      int b = random.nextBoolean() ? in(1, 2) : in(1, 8);
      same(label, "shelf", () -> model.shelf(a, b), () -> program.shelf(a, b), a, b);
    } else if (way < 20) {
      int a = block();
      int b = in(0, 255);
      int c = random.nextInt(3) > 0 ? 4 : in(0, 4);
      same(label, "write", () -> model.write(a, b, c), () -> program.write(a, b, c), a, b, c);
    } else if (way < 26) {
      int a = block();
      same(label, "read", () -> model.read(a), () -> program.read(a), a);
    } else if (way < 28) {
      int a = disk();
      same(label, "fail", () -> model.fail(a), () -> program.fail(a), a);
    } else if (way < (isHarsh ? 29 : 31)) {
      int a = disk();
      same(label, "swap", () -> model.swap(a), () -> program.swap(a), a);
    } else if (way < (isHarsh ? 40 : 36)) {
      int a = disk();
      int b = stripe();
      int c = in(1, random.nextInt(4) == 0 ? 255 : 2);
      same(label, "flip", () -> model.flip(a, b, c), () -> program.flip(a, b, c), a, b, c);
    } else if (way < 43) {
      int a = random.nextBoolean() ? in(1, 3) : in(1, 8);
      same(label, "rebuild", () -> model.rebuild(a), () -> program.rebuild(a), a);
    } else if (way < 47) {
      int a = random.nextBoolean() ? in(1, 3) : in(1, 8);
      same(label, "patrol", () -> model.patrol(a), () -> program.patrol(a), a);
    } else if (way < 50) {
      int a = stripe();
      same(label, "giveUp", () -> model.giveUp(a), () -> program.giveUp(a), a);
    } else {
      comparePowerOrAsking(label, way);
    }
  }

  private void comparePowerOrAsking(String label, int way) {
    if (way < 53) {
      int a = in(0, 4);
      int b = in(1, random.nextBoolean() ? 30 : 14);
      int c = in(1, 9);
      int d = in(0, random.nextInt(3) == 0 ? 9 : 4);
      same(label, "kind", () -> model.kind(a, b, c, d), () -> program.kind(a, b, c, d), a, b, c, d);
    } else if (way < 56) {
      int a = random.nextInt(3) == 0 ? in(1, 90) : in(16, 50);
      int b = random.nextBoolean() ? in(0, 9) : in(0, 3);
      same(label, "fuse", () -> model.fuse(a, b), () -> program.fuse(a, b), a, b);
    } else if (way < 57) {
      same(label, "off", model::off, program::off);
    } else if (way < 63) {
      same(label, "power", model::power, program::power);
    } else if (way < 67) {
      int a = in(0, 20);
      same(label, "boot", () -> model.boot(a), () -> program.boot(a), a);
    } else {
      compareAsking(label, way);
    }
  }

  private void compareAsking(String label, int way) {
    int a = disk();
    int b = stripe();
    int c = block();
    int gap = in(0, 20);
    int tenth = in(0, random.nextInt(4) == 0 ? 999 : 50);
    int second = disk();
    int w = in(0, way < 73 ? 4 : way < 76 ? 7 : way < 79 ? 3 : way < 81 ? 2 : 16);
    if (way < 73) {
      same(label, "cell", () -> model.cell(a, b, w), () -> program.cell(a, b, w), a, b, w);
    } else if (way < 76) {
      same(label, "ofDisk", () -> model.ofDisk(a, w), () -> program.ofDisk(a, w), a, w);
    } else if (way < 79) {
      same(label, "ofBlock", () -> model.ofBlock(c, w), () -> program.ofBlock(c, w), c, w);
    } else if (way < 81) {
      same(label, "note", () -> model.note(w), () -> program.note(w), w);
    } else if (way < 83) {
      same(label, "house", () -> model.house(w), () -> program.house(w), w);
    } else if (way < 85) {
      same(label, "row", () -> model.row(b), () -> program.row(b), b);
    } else if (way < 86) {
      same(label, "draw", () -> model.draw(tenth), () -> program.draw(tenth), tenth);
    } else if (way < 87) {
      same(label, "wouldBoot", () -> model.wouldBoot(gap), () -> program.wouldBoot(gap), gap);
    } else if (way < 88) {
      same(label, "wouldLose", () -> model.wouldLose(a, second), () -> program.wouldLose(a, second), a, second);
    } else if (way < 89) {
      same(label, "isSound", model::isSound, program::isSound);
    } else {
      same(label, "knock", model::knock, program::knock);
    }
  }

  private static void same(String label, String method, Check.Call due, Check.Call got, int... args) {
    Check.same(label + method + java.util.Arrays.toString(args), Check.answerOf(due), got);
  }
}
