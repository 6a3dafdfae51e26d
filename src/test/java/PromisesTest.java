/** Each promise by itself: ordinary inputs, the edges that the document names, and wrong inputs. */
public final class PromisesTest {
  private static final int MIN = Integer.MIN_VALUE;
  private static final int MAX = Integer.MAX_VALUE;

  private final Staggershelf x = new Staggershelf();
  private final String promise;

  private PromisesTest(int promise) {
    this.promise = "promise " + promise + ": ";
  }

  public static void main(String[] args) {
    new PromisesTest(1).newObject();
    new PromisesTest(2).shelf();
    new PromisesTest(2).shelfAnew();
    new PromisesTest(3).write();
    new PromisesTest(3).writeByHalves();
    new PromisesTest(3).writeOnHurt();
    new PromisesTest(3).writeRefused();
    new PromisesTest(4).read();
    new PromisesTest(5).fail();
    new PromisesTest(6).swap();
    new PromisesTest(7).flip();
    new PromisesTest(8).rebuild();
    new PromisesTest(9).patrol();
    new PromisesTest(10).giveUp();
    new PromisesTest(10).giveUpOnFailed();
    new PromisesTest(11).kind();
    new PromisesTest(12).fuse();
    new PromisesTest(13).off();
    new PromisesTest(14).power();
    new PromisesTest(15).boot();
    new PromisesTest(16).cell();
    new PromisesTest(17).ofDisk();
    new PromisesTest(18).ofBlock();
    new PromisesTest(19).note();
    new PromisesTest(20).house();
    new PromisesTest(21).row();
    new PromisesTest(22).draw();
    new PromisesTest(23).wouldBoot();
    new PromisesTest(24).wouldLose();
    new PromisesTest(25).isSound();
    new PromisesTest(26).knock();
    new PromisesTest(27).digest();
    new PromisesTest(27).digestWithoutPlan();
    Check.end("PromisesTest");
  }

  private void due(Object want, String call, Check.Call got) {
    Check.same(promise + call, want, got);
  }

  /** A call that throws changes nothing: the digest is as before. */
  private void unchanged(String want, String call, Check.Call got) {
    long before = x.digest();
    Check.same(promise + call, "throws." + want, got);
    Check.same(promise + "digest() behind " + call, before, x::digest);
  }

  private void bounds(String call, Check.Call got) {
    unchanged("IndexOutOfBoundsException", call, got);
  }

  private void argument(String call, Check.Call got) {
    unchanged("IllegalArgumentException", call, got);
  }

  private void state(String call, Check.Call got) {
    unchanged("IllegalStateException", call, got);
  }

  private void houses(int from, int... want) {
    for (int i = 0; i < want.length; i++) {
      int what = from + i;
      due(want[i], "house(" + what + ")", () -> x.house(what));
    }
  }

  private void notes(int block, int value, int sum) {
    due(block, "note(0)", () -> x.note(0));
    due(value, "note(1)", () -> x.note(1));
    due(sum, "note(2)", () -> x.note(2));
  }

  private void newObject() {
    houses(0, 0, 0, 0, 0, 0, 0, 0, 0, 0, 0, 0, 0, 0, -1, 0, 0, 0);
    notes(-1, -1, -1);
    bounds("ofDisk(0, 3)", () -> x.ofDisk(0, 3));
    bounds("read(0)", () -> x.read(0));
    bounds("row(0)", () -> x.row(0));
    state("off()", x::off);
    due(true, "isSound()", x::isSound);
    due(-1, "draw(0)", () -> x.draw(0));
    due(30, "fuse(30, 0)", () -> x.fuse(30, 0));
    for (int d = 0; d < 5; d++) {
      int disk = d;
      due(10, "kind", () -> x.kind(disk, 10, 3, 2));
    }
  }

  private void shelf() {
    argument("shelf(2, 1)", () -> x.shelf(2, 1));
    argument("shelf(6, 1)", () -> x.shelf(6, 1));
    argument("shelf(3, 0)", () -> x.shelf(3, 0));
    argument("shelf(3, 9)", () -> x.shelf(3, 9));
    argument("shelf(MIN, MIN)", () -> x.shelf(MIN, MIN));
    argument("shelf(MAX, MAX)", () -> x.shelf(MAX, MAX));
    for (int disks = 3; disks <= 5; disks++) {
      for (int stripes = 1; stripes <= 8; stripes++) {
        int n = disks;
        int s = stripes;
        due((n - 1) * s, "shelf(" + n + ", " + s + ")", () -> x.shelf(n, s));
        houses(0, n, s, (n - 1) * s, 1, 0, 0, 0, 0, 0);
        due(0, "cell", () -> x.cell(n - 1, s - 1, 0));
        due(s - 1, "cell", () -> x.cell(n - 1, s - 1, 1));
        bounds("row(" + s + ")", () -> x.row(s));
      }
    }
    argument("shelf(6, 8) on a shelf", () -> x.shelf(6, 8));
  }

  private void shelfAnew() {
    x.shelf(5, 8);
    x.kind(1, 11, 4, 3);
    x.fuse(35, 1);
    x.knock();
    x.fail(0);
    x.swap(0);
    x.rebuild(8);
    x.rebuild(3);
    x.fail(2);
    x.write(0, 9, 4);
    x.read(0);
    x.patrol(5);
    x.write(1, 200, 1);
    houses(0, 5, 8, 32, 0, 1);
    due(2, "shelf(3, 1)", () -> x.shelf(3, 1));
    houses(0, 3, 1, 2, 1, 0, 0, 0, 0, 0, 0, 0, 0, 0);
    houses(14, 0, 0, 1);
    notes(-1, -1, -1);
    due(0, "ofDisk(0, 2)", () -> x.ofDisk(0, 2));
    due(11, "ofDisk(1, 3)", () -> x.ofDisk(1, 3));
    due(4, "ofDisk(1, 4)", () -> x.ofDisk(1, 4));
    due(3, "ofDisk(1, 5)", () -> x.ofDisk(1, 5));
    due(35, "fuse(35, 1)", () -> x.fuse(35, 1));
    due("+..", "row(0)", () -> x.row(0));
    due(0, "read(0)", () -> x.read(0));
    due(true, "isSound()", x::isSound);
    x.shelf(5, 8);
    houses(4, 0, 0, 0, 0, 0);
    due(0, "cell(1, 0, 0)", () -> x.cell(1, 0, 0));
    due(0, "read(1)", () -> x.read(1));
    x.off();
    x.shelf(3, 1);
    houses(3, 1);
    x.fuse(1, 0);
    x.shelf(3, 2);
    houses(3, 1);
    houses(13, -1);
  }

  private void write() {
    x.shelf(4, 2);
    due(true, "write(0, 255, 4)", () -> x.write(0, 255, 4));
    due(255, "cell(1, 0, 0)", () -> x.cell(1, 0, 0));
    due(7 * 255 % 256, "cell(1, 0, 1)", () -> x.cell(1, 0, 1));
    due(255, "cell(0, 0, 0)", () -> x.cell(0, 0, 0));
    due(true, "write(2, 15, 4)", () -> x.write(2, 15, 4));
    due(240, "cell(0, 0, 0)", () -> x.cell(0, 0, 0));
    due(true, "write(0, 1, 4)", () -> x.write(0, 1, 4));
    due(14, "cell(0, 0, 0)", () -> x.cell(0, 0, 0));
    due(true, "write(3, 37, 4)", () -> x.write(3, 37, 4));
    due(37, "cell(0, 1, 0)", () -> x.cell(0, 1, 0));
    due((7 * 37 + 1) % 256, "cell(0, 1, 1)", () -> x.cell(0, 1, 1));
    due(37, "cell(1, 1, 0)", () -> x.cell(1, 1, 0));
    houses(3, 1);
    houses(9, 4, 0, 0, 0);
    notes(-1, -1, -1);
  }

  private void writeByHalves() {
    x.shelf(3, 2);
    x.write(2, 6, 4);
    due(false, "write(2, 9, 0)", () -> x.write(2, 9, 0));
    houses(3, 0);
    houses(9, 1, 0, 0, 1);
    notes(-1, -1, -1);
    x.power();
    due(6, "read(2)", () -> x.read(2));
    due(true, "write(3, 9, 1)", () -> x.write(3, 9, 1));
    houses(3, 0);
    houses(9, 2, 1, 0, 2);
    notes(3, 9, 15);
    due(0, "cell(2, 1, 0)", () -> x.cell(2, 1, 0));
    due(6, "cell(1, 1, 0)", () -> x.cell(1, 1, 0));
    due(3, "power()", x::power);
    notes(-1, -1, -1);
    due(9, "cell(2, 1, 0)", () -> x.cell(2, 1, 0));
    due(15, "cell(1, 1, 0)", () -> x.cell(1, 1, 0));
    due(true, "write(2, 1, 2)", () -> x.write(2, 1, 2));
    notes(2, 1, 8);
    due(1, "cell(0, 1, 0)", () -> x.cell(0, 1, 0));
    due(15, "cell(1, 1, 0)", () -> x.cell(1, 1, 0));
    due(0, "boot(0)", () -> x.boot(0));
    due(8, "cell(1, 1, 0)", () -> x.cell(1, 1, 0));
    due(true, "write(2, 3, 3)", () -> x.write(2, 3, 3));
    notes(2, 3, 10);
    due(3, "cell(0, 1, 0)", () -> x.cell(0, 1, 0));
    due(10, "cell(1, 1, 0)", () -> x.cell(1, 1, 0));
    houses(9, 4, 1, 0, 4);
    x.swap(0);
    x.swap(1);
    x.power();
    due(3, "cell(0, 1, 0)", () -> x.cell(0, 1, 0));
    due(10, "cell(1, 1, 0)", () -> x.cell(1, 1, 0));
    houses(9, 4);
    x.write(2, 4, 1);
    x.fail(0);
    x.power();
    due(3, "cell(0, 1, 0)", () -> x.cell(0, 1, 0));
    due(13, "cell(1, 1, 0)", () -> x.cell(1, 1, 0));
    due(4, "read(2)", () -> x.read(2));
  }

  private void writeOnHurt() {
    x.shelf(4, 1);
    x.write(0, 1, 4);
    x.write(1, 2, 4);
    x.write(2, 4, 4);
    x.flip(3, 0, 64);
    due(false, "write(0, 9, 0)", () -> x.write(0, 9, 0));
    houses(11, 1);
    due(4, "cell(3, 0, 0)", () -> x.cell(3, 0, 0));
    x.power();
    x.flip(1, 0, 64);
    due(true, "write(0, 9, 4)", () -> x.write(0, 9, 4));
    houses(11, 2);
    due(15, "cell(0, 0, 0)", () -> x.cell(0, 0, 0));
    x.flip(0, 0, 1);
    due(true, "write(1, 3, 1)", () -> x.write(1, 3, 1));
    houses(11, 3);
    notes(1, 3, 14);
    x.power();
    x.fail(2);
    due(true, "write(1, 8, 4)", () -> x.write(1, 8, 4));
    houses(11, 3);
    due(3, "cell(2, 0, 0)", () -> x.cell(2, 0, 0));
    due(5, "cell(0, 0, 0)", () -> x.cell(0, 0, 0));
    due(8, "read(1)", () -> x.read(1));
    due(true, "write(0, 0, 4)", () -> x.write(0, 0, 4));
    due(12, "cell(0, 0, 0)", () -> x.cell(0, 0, 0));
    due(8, "read(1)", () -> x.read(1));
    x.swap(2);
    x.rebuild(1);
    x.fail(0);
    due(true, "write(0, 7, 3)", () -> x.write(0, 7, 3));
    notes(0, 7, 7 ^ 8 ^ 4);
    due(12, "cell(0, 0, 0)", () -> x.cell(0, 0, 0));
    due(7, "cell(1, 0, 0)", () -> x.cell(1, 0, 0));
  }

  private void writeRefused() {
    bounds("write(0, 0, 4) without a shelf", () -> x.write(0, 0, 4));
    x.shelf(3, 2);
    bounds("write(-1, -1, 5)", () -> x.write(-1, -1, 5));
    bounds("write(4, 0, 4)", () -> x.write(4, 0, 4));
    bounds("write(MIN, 0, 4)", () -> x.write(MIN, 0, 4));
    bounds("write(MAX, 0, 4)", () -> x.write(MAX, 0, 4));
    argument("write(3, -1, 4)", () -> x.write(3, -1, 4));
    argument("write(3, 256, 4)", () -> x.write(3, 256, 4));
    argument("write(3, 0, -1)", () -> x.write(3, 0, -1));
    argument("write(3, 0, 5)", () -> x.write(3, 0, 5));
    x.fail(0);
    x.flip(2, 1, 1);
    state("write(3, 1, 4) on a broken stripe", () -> x.write(3, 1, 4));
    state("write(2, 1, 0) on a broken stripe", () -> x.write(2, 1, 0));
    due(true, "write(1, 1, 4) on a hurt one", () -> x.write(1, 1, 4));
    x.off();
    bounds("write(4, 256, 4) with the power off", () -> x.write(4, 256, 4));
    argument("write(0, 256, 4) with the power off", () -> x.write(0, 256, 4));
    state("write(0, 1, 4) with the power off", () -> x.write(0, 1, 4));
  }

  private void read() {
    bounds("read(0) without a shelf", () -> x.read(0));
    x.shelf(4, 2);
    x.write(3, 17, 4);
    x.write(5, 18, 4);
    due(17, "read(3)", () -> x.read(3));
    x.flip(0, 1, 8);
    due(18, "read(5), its cell good, in a hurt stripe", () -> x.read(5));
    houses(10, 2, 0);
    due(17, "read(3), its cell bad", () -> x.read(3));
    houses(10, 3, 1);
    due(17, "cell(0, 1, 0)", () -> x.cell(0, 1, 0));
    due(0, "cell(0, 1, 2)", () -> x.cell(0, 1, 2));
    x.fail(3);
    due(18, "read(5), its disk failed", () -> x.read(5));
    houses(10, 4, 1);
    due(1, "cell(3, 1, 2)", () -> x.cell(3, 1, 2));
    x.flip(0, 1, 1);
    due(-1, "read(5), lost", () -> x.read(5));
    due(-1, "read(3), lost", () -> x.read(3));
    due(0, "read(4), good in a broken stripe", () -> x.read(4));
    houses(10, 7, 1);
    bounds("read(6)", () -> x.read(6));
    bounds("read(-1)", () -> x.read(-1));
    bounds("read(MAX)", () -> x.read(MAX));
    x.off();
    bounds("read(6) with the power off", () -> x.read(6));
    state("read(0) with the power off", () -> x.read(0));
  }

  private void fail() {
    bounds("fail(0) without a shelf", () -> x.fail(0));
    x.shelf(4, 4);
    x.write(2, 5, 4);
    bounds("fail(4)", () -> x.fail(4));
    bounds("fail(-1)", () -> x.fail(-1));
    bounds("fail(MIN)", () -> x.fail(MIN));
    due(0, "fail(1)", () -> x.fail(1));
    state("fail(1) again", () -> x.fail(1));
    houses(4, 1, 4, 4, 0, 0);
    x.off();
    due(6, "fail(3), with the power off", () -> x.fail(3));
    houses(4, 2, 8, 0, 4, 6);
    due(5, "cell(3, 0, 0)", () -> x.cell(3, 0, 0));
    due(35, "cell(3, 0, 1)", () -> x.cell(3, 0, 1));
    due(9, "fail(0)", () -> x.fail(0));
    due(12, "fail(2)", () -> x.fail(2));
  }

  private void swap() {
    bounds("swap(0) without a shelf", () -> x.swap(0));
    x.shelf(3, 3);
    x.write(0, 5, 4);
    bounds("swap(3)", () -> x.swap(3));
    bounds("swap(-1)", () -> x.swap(-1));
    bounds("swap(MAX)", () -> x.swap(MAX));
    x.patrol(1);
    x.rebuild(2);
    houses(14, 2, 1);
    due(0, "swap(1), that has not failed", () -> x.swap(1));
    houses(14, 0, 1);
    houses(4, 0, 3, 3, 0, 0);
    due(0, "cell(1, 0, 0)", () -> x.cell(1, 0, 0));
    due(-1, "cell(1, 0, 1)", () -> x.cell(1, 0, 1));
    due(1, "cell(1, 2, 2)", () -> x.cell(1, 2, 2));
    due(1, "ofDisk(1, 2)", () -> x.ofDisk(1, 2));
    due(0, "ofDisk(0, 2)", () -> x.ofDisk(0, 2));
    due(4, "fail(2)", () -> x.fail(2));
    due(4, "swap(2)", () -> x.swap(2));
    due(4, "swap(2) again", () -> x.swap(2));
    due(2, "ofDisk(2, 2)", () -> x.ofDisk(2, 2));
    x.off();
    due(6, "swap(0), with the power off", () -> x.swap(0));
    due("???", "row(0)", () -> x.row(0));
  }

  private void flip() {
    bounds("flip(0, 0, 1) without a shelf", () -> x.flip(0, 0, 1));
    x.shelf(3, 2);
    x.write(1, 200, 4);
    bounds("flip(3, 0, 0)", () -> x.flip(3, 0, 0));
    bounds("flip(-1, 0, 1)", () -> x.flip(-1, 0, 1));
    bounds("flip(0, 2, 1)", () -> x.flip(0, 2, 1));
    bounds("flip(0, -1, 1)", () -> x.flip(0, -1, 1));
    bounds("flip(MAX, MAX, 1)", () -> x.flip(MAX, MAX, 1));
    argument("flip(0, 0, 0)", () -> x.flip(0, 0, 0));
    argument("flip(0, 0, 256)", () -> x.flip(0, 0, 256));
    argument("flip(0, 0, MIN)", () -> x.flip(0, 0, MIN));
    due(201, "flip(2, 0, 1)", () -> x.flip(2, 0, 1));
    due(7 * 200 % 256, "cell(2, 0, 1)", () -> x.cell(2, 0, 1));
    due(1, "cell(2, 0, 2)", () -> x.cell(2, 0, 2));
    due(200, "flip(2, 0, 1) back", () -> x.flip(2, 0, 1));
    due(0, "cell(2, 0, 2)", () -> x.cell(2, 0, 2));
    houses(11, 0);
    due(55, "flip(2, 0, 255)", () -> x.flip(2, 0, 255));
    x.fail(1);
    bounds("flip(1, 2, 0) of a failed disk", () -> x.flip(1, 2, 0));
    argument("flip(1, 0, 0) of a failed disk", () -> x.flip(1, 0, 0));
    state("flip(1, 0, 1) of a failed disk", () -> x.flip(1, 0, 1));
    x.off();
    due(128, "flip(0, 1, 128), with the power off", () -> x.flip(0, 1, 128));
    x.swap(1);
    due(3, "flip(1, 1, 3) of a new disk", () -> x.flip(1, 1, 3));
    due(-1, "cell(1, 1, 1)", () -> x.cell(1, 1, 1));
  }

  private void roundRefused(String name, java.util.function.IntUnaryOperator round) {
    argument(name + "(0)", () -> round.applyAsInt(0));
    argument(name + "(9)", () -> round.applyAsInt(9));
    argument(name + "(MIN)", () -> round.applyAsInt(MIN));
    argument(name + "(MAX)", () -> round.applyAsInt(MAX));
    state(name + "(1)", () -> round.applyAsInt(1));
    state(name + "(8)", () -> round.applyAsInt(8));
  }

  private void rebuild() {
    roundRefused("rebuild without a shelf", x::rebuild);
    x.shelf(4, 5);
    for (int block = 0; block < 15; block++) {
      x.write(block, block * 16 + 1, 4);
    }
    x.fail(2);
    due(0, "rebuild(8), its disk failed", () -> x.rebuild(8));
    houses(14, 3, 0);
    x.swap(2);
    houses(14, 0, 0);
    x.flip(0, 1, 4);
    due(1, "rebuild(2): a hurt one, a broken one", () -> x.rebuild(2));
    houses(14, 2, 0);
    due(1, "cell(2, 1, 2)", () -> x.cell(2, 1, 2));
    due(3, "rebuild(3)", () -> x.rebuild(3));
    houses(14, 0, 0);
    houses(11, 4);
    due(17, "read(1)", () -> x.read(1));
    due(0, "rebuild(7), more than there are", () -> x.rebuild(7));
    houses(14, 2, 0);
    x.flip(2, 1, 1);
    x.flip(2, 1, 1);
    x.flip(0, 1, 4);
    due(0, "rebuild(1)", () -> x.rebuild(1));
    due(1, "rebuild(4)", () -> x.rebuild(4));
    houses(14, 2, 0);
    due(0, "house(5)", () -> x.house(5));
    for (int b = 0; b < 15; b++) {
      int block = b;
      due(block * 16 + 1, "read(" + block + ")", () -> x.read(block));
    }
    x.off();
    roundRefused("rebuild with the power off", x::rebuild);
  }

  private void patrol() {
    roundRefused("patrol without a shelf", x::patrol);
    x.shelf(3, 3);
    x.write(2, 77, 4);
    x.flip(0, 1, 1);
    x.flip(0, 2, 1);
    x.flip(1, 2, 1);
    due(0, "patrol(1)", () -> x.patrol(1));
    houses(14, 0, 1);
    due(1, "patrol(2): a hurt one, a broken one", () -> x.patrol(2));
    houses(14, 0, 0);
    houses(11, 1);
    due(77, "cell(0, 1, 0)", () -> x.cell(0, 1, 0));
    x.swap(2);
    due(1, "patrol(1)", () -> x.patrol(1));
    x.swap(1);
    houses(14, 0, 1);
    due(1, "patrol(5)", () -> x.patrol(5));
    houses(14, 0, 0);
    x.fail(1);
    due(0, "patrol(4), its disk failed", () -> x.patrol(4));
    houses(14, 0, 1);
    x.off();
    roundRefused("patrol with the power off", x::patrol);
  }

  private void giveUp() {
    bounds("giveUp(0) without a shelf", () -> x.giveUp(0));
    x.shelf(5, 2);
    for (int block = 0; block < 8; block++) {
      x.write(block, 16 + block, 4);
    }
    bounds("giveUp(2)", () -> x.giveUp(2));
    bounds("giveUp(-1)", () -> x.giveUp(-1));
    bounds("giveUp(MAX)", () -> x.giveUp(MAX));
    state("giveUp(1) of a whole one", () -> x.giveUp(1));
    x.flip(0, 1, 1);
    state("giveUp(1) of a hurt one", () -> x.giveUp(1));
    x.flip(4, 1, 1);
    x.off();
    bounds("giveUp(2) with the power off", () -> x.giveUp(2));
    state("giveUp(1) with the power off", () -> x.giveUp(1));
    x.power();
    due(17, "giveUp(1)", () -> x.giveUp(1));
    due(0, "read(4)", () -> x.read(4));
    due(21, "read(5)", () -> x.read(5));
    due(22, "read(6)", () -> x.read(6));
    due(0, "read(7)", () -> x.read(7));
    due(21 ^ 22, "cell(1, 1, 0)", () -> x.cell(1, 1, 0));
    houses(5, 0, 0, 0, 0, 8, 4, 0);
    due(true, "isSound()", x::isSound);
    x.flip(0, 0, 1);
    x.flip(2, 0, 1);
    due(4, "giveUp(0), its sum cell bad", () -> x.giveUp(0));
    due(16 ^ 18 ^ 19, "cell(0, 0, 0)", () -> x.cell(0, 0, 0));
    due(0, "cell(0, 0, 2)", () -> x.cell(0, 0, 2));
    due(true, "isSound()", x::isSound);
  }

  private void giveUpOnFailed() {
    x.shelf(4, 2);
    x.write(0, 1, 4);
    x.write(1, 2, 4);
    x.write(2, 4, 4);
    x.write(4, 9, 4);
    x.fail(1);
    x.flip(2, 0, 32);
    due(6, "giveUp(0)", () -> x.giveUp(0));
    due(1, "cell(1, 0, 0)", () -> x.cell(1, 0, 0));
    due(0, "cell(2, 0, 0)", () -> x.cell(2, 0, 0));
    due(4, "cell(0, 0, 0)", () -> x.cell(0, 0, 0));
    due("+x..", "row(0)", () -> x.row(0));
    due(0, "read(0)", () -> x.read(0));
    state("giveUp(0) of a hurt one", () -> x.giveUp(0));
    x.flip(2, 1, 3);
    due(4, "giveUp(1), its sum cell on a failed disk", () -> x.giveUp(1));
    due(9, "cell(1, 1, 0)", () -> x.cell(1, 1, 0));
    due(0, "cell(2, 1, 0)", () -> x.cell(2, 1, 0));
    due(".x..", "row(1)", () -> x.row(1));
    x.fail(2);
    due(6, "giveUp(0), two failed", () -> x.giveUp(0));
    due(6, "giveUp(0), two failed, again", () -> x.giveUp(0));
    due(-1, "read(0)", () -> x.read(0));
    due(4, "cell(0, 0, 0)", () -> x.cell(0, 0, 0));
    x.swap(1);
    due(6, "giveUp(0)", () -> x.giveUp(0));
    due(0, "read(0)", () -> x.read(0));
    due(0, "read(1)", () -> x.read(1));
    due(4, "read(2)", () -> x.read(2));
    due(true, "isSound()", x::isSound);
    x.shelf(3, 1);
    x.write(0, 5, 4);
    x.fail(0);
    x.fail(1);
    x.fail(2);
    due(6, "giveUp(0), all failed", () -> x.giveUp(0));
    due(5, "cell(1, 0, 0)", () -> x.cell(1, 0, 0));
    due(5, "cell(0, 0, 0)", () -> x.cell(0, 0, 0));
  }

  private void kind() {
    bounds("kind(5, 0, 0, 10)", () -> x.kind(5, 0, 0, 10));
    bounds("kind(-1, 1, 1, 1)", () -> x.kind(-1, 1, 1, 1));
    bounds("kind(MIN, 1, 1, 1)", () -> x.kind(MIN, 1, 1, 1));
    due(10, "kind(4, 30, 9, 9) without a shelf", () -> x.kind(4, 30, 9, 9));
    due(30, "kind(4, 1, 1, 0)", () -> x.kind(4, 1, 1, 0));
    due(1, "kind(4, 1, 1, 0)", () -> x.kind(4, 1, 1, 0));
    x.shelf(3, 1);
    due(10, "kind(0, 7, 5, 4)", () -> x.kind(0, 7, 5, 4));
    argument("kind(0, 0, 1, 0)", () -> x.kind(0, 0, 1, 0));
    argument("kind(0, 31, 1, 0)", () -> x.kind(0, 31, 1, 0));
    argument("kind(0, 1, 0, 0)", () -> x.kind(0, 1, 0, 0));
    argument("kind(0, 1, 10, 0)", () -> x.kind(0, 1, 10, 0));
    argument("kind(0, 1, 1, -1)", () -> x.kind(0, 1, 1, -1));
    argument("kind(0, 1, 1, 10)", () -> x.kind(0, 1, 1, 10));
    due(7, "ofDisk(0, 3)", () -> x.ofDisk(0, 3));
    due(5, "ofDisk(0, 4)", () -> x.ofDisk(0, 4));
    due(4, "ofDisk(0, 5)", () -> x.ofDisk(0, 5));
    due(5, "house(13)", () -> x.house(13));
    x.kind(0, 30, 2, 0);
    due(5, "house(13) behind another kind", () -> x.house(13));
    due(1, "kind(4, 2, 2, 2), a disk that is not there", () -> x.kind(4, 2, 2, 2));
    x.shelf(5, 1);
    due(2, "ofDisk(4, 3)", () -> x.ofDisk(4, 3));
    due(10, "ofDisk(3, 3)", () -> x.ofDisk(3, 3));
  }

  private void fuse() {
    due(30, "fuse(90, 9)", () -> x.fuse(90, 9));
    due(90, "fuse(1, 0)", () -> x.fuse(1, 0));
    due(1, "fuse(30, 0)", () -> x.fuse(30, 0));
    x.shelf(4, 1);
    argument("fuse(0, 0)", () -> x.fuse(0, 0));
    argument("fuse(91, 0)", () -> x.fuse(91, 0));
    argument("fuse(30, -1)", () -> x.fuse(30, -1));
    argument("fuse(30, 10)", () -> x.fuse(30, 10));
    argument("fuse(MIN, MAX)", () -> x.fuse(MIN, MAX));
    houses(13, 6);
    due(30, "fuse(40, 0): DRAW at LIMIT does not trip", () -> x.fuse(40, 0));
    houses(13, 3);
    due(40, "fuse(39, 2): three tenths above LIMIT are one too many", () -> x.fuse(39, 2));
    houses(13, 4);
    due(39, "fuse(39, 3): three are not", () -> x.fuse(39, 3));
    houses(13, 3);
    due(39, "fuse(8, 9): they spin for less than PATIENCE", () -> x.fuse(8, 9));
    houses(13, 3);
    due(8, "fuse(7, 9): idly they draw 8 for good", () -> x.fuse(7, 9));
    houses(13, -1);
  }

  private void off() {
    state("off() without a shelf", x::off);
    x.shelf(3, 1);
    due(true, "off()", x::off);
    houses(3, 0);
    houses(12, 1);
    due(false, "off() again", x::off);
    houses(12, 1);
    x.power();
    due(true, "off()", x::off);
    houses(12, 2);
    x.power();
    x.write(0, 1, 2);
    due(false, "off() behind a power failure", x::off);
    houses(12, 3);
    notes(0, 1, 1);
  }

  private void power() {
    state("power() without a shelf", x::power);
    x.shelf(4, 1);
    state("power(), it is on", x::power);
    x.write(0, 9, 1);
    x.fuse(9, 0);
    state("power() without a plan", x::power);
    notes(0, 9, 9);
    x.fuse(30, 0);
    due(6, "power()", x::power);
    houses(3, 1);
    houses(12, 1);
    notes(-1, -1, -1);
    due(9, "read(0)", () -> x.read(0));
    due(9, "cell(0, 0, 0)", () -> x.cell(0, 0, 0));
    x.off();
    x.kind(3, 10, 9, 2);
    due(9, "power(): the one that spins longest is not left for last", x::power);
    due(0, "ofDisk(3, 6)", () -> x.ofDisk(3, 6));
    x.off();
    x.fuse(90, 0);
    x.kind(1, 1, 1, 1);
    due(9, "power() with another kind", x::power);
    x.write(1, 5, 2);
    x.fail(0);
    x.power();
    due(9, "cell(0, 0, 0), its disk failed", () -> x.cell(0, 0, 0));
    due(5, "read(1)", () -> x.read(1));
    notes(-1, -1, -1);
  }

  private void boot() {
    argument("boot(-1) without a shelf", () -> x.boot(-1));
    state("boot(0) without a shelf", () -> x.boot(0));
    x.shelf(4, 1);
    argument("boot(21)", () -> x.boot(21));
    argument("boot(-1)", () -> x.boot(-1));
    argument("boot(MAX)", () -> x.boot(MAX));
    state("boot(20), it is on", () -> x.boot(20));
    x.write(2, 44, 1);
    due(-1, "boot(0)", () -> x.boot(0));
    houses(3, 0);
    houses(12, 1);
    notes(2, 44, 44);
    due(-1, "boot(1): 32 at the tenth 3", () -> x.boot(1));
    houses(3, 0);
    due(6, "boot(2)", () -> x.boot(2));
    houses(3, 1);
    notes(-1, -1, -1);
    due(44, "read(2)", () -> x.read(2));
    x.off();
    due(60, "boot(20)", () -> x.boot(20));
    x.off();
    x.fuse(15, 0);
    due(-1, "boot(4): 16 at the tenth 12", () -> x.boot(4));
    x.fuse(8, 9);
    due(60, "boot(20) without a plan's help", () -> x.boot(20));
    x.off();
    x.fuse(7, 9);
    due(-1, "boot(20): idly they draw 8 for good", () -> x.boot(20));
    x.fuse(16, 0);
    x.fail(0);
    due(9, "boot(3): a failed disk draws, too", () -> x.boot(3));
  }

  private void cell() {
    bounds("cell(0, 0, 0) without a shelf", () -> x.cell(0, 0, 0));
    x.shelf(3, 4);
    x.write(7, 100, 4);
    x.write(6, 3, 4);
    bounds("cell(3, 0, 0)", () -> x.cell(3, 0, 0));
    bounds("cell(0, 4, 5)", () -> x.cell(0, 4, 5));
    bounds("cell(-1, 0, 0)", () -> x.cell(-1, 0, 0));
    bounds("cell(0, -1, 0)", () -> x.cell(0, -1, 0));
    bounds("cell(MIN, MAX, 0)", () -> x.cell(MIN, MAX, 0));
    argument("cell(0, 0, -1)", () -> x.cell(0, 0, -1));
    argument("cell(0, 0, 5)", () -> x.cell(0, 0, 5));
    int[][] blocks = {{-1, 0, 1}, {2, -1, 3}, {4, 5, -1}, {-1, 6, 7}};
    for (int t = 0; t < 4; t++) {
      for (int d = 0; d < 3; d++) {
        int disk = d;
        int stripe = t;
        due(blocks[t][d], "cell(" + d + ", " + t + ", 3)", () -> x.cell(disk, stripe, 3));
      }
    }
    due(100, "cell(2, 3, 0)", () -> x.cell(2, 3, 0));
    due((700 + 3) % 256, "cell(2, 3, 1)", () -> x.cell(2, 3, 1));
    due(103, "cell(0, 3, 0)", () -> x.cell(0, 3, 0));
    x.flip(0, 3, 1);
    due(1, "cell(0, 3, 2)", () -> x.cell(0, 3, 2));
    due(103, "cell(0, 3, 4)", () -> x.cell(0, 3, 4));
    due(102, "cell(0, 3, 0)", () -> x.cell(0, 3, 0));
    x.fail(2);
    due(100, "cell(2, 3, 0)", () -> x.cell(2, 3, 0));
    due((700 + 3) % 256, "cell(2, 3, 1)", () -> x.cell(2, 3, 1));
    due(1, "cell(2, 3, 2)", () -> x.cell(2, 3, 2));
    due(-1, "cell(2, 3, 4)", () -> x.cell(2, 3, 4));
    due(-1, "cell(0, 3, 4)", () -> x.cell(0, 3, 4));
    due(3, "cell(1, 3, 4)", () -> x.cell(1, 3, 4));
    x.off();
    due(0, "cell(2, 2, 4), with the power off", () -> x.cell(2, 2, 4));
  }

  private void ofDisk() {
    bounds("ofDisk(0, 3) without a shelf", () -> x.ofDisk(0, 3));
    x.shelf(3, 3);
    bounds("ofDisk(3, 8)", () -> x.ofDisk(3, 8));
    bounds("ofDisk(-1, 0)", () -> x.ofDisk(-1, 0));
    bounds("ofDisk(MAX, 0)", () -> x.ofDisk(MAX, 0));
    argument("ofDisk(0, 8)", () -> x.ofDisk(0, 8));
    argument("ofDisk(0, -1)", () -> x.ofDisk(0, -1));
    x.flip(1, 0, 1);
    x.flip(1, 2, 1);
    x.kind(1, 20, 4, 1);
    x.fuse(29, 0);
    // The orders 0, 2, 1 and 1, 0, 2 both have the END 7: the smaller disk at the first place decides.
    int[][] want = {{0, 0, 0, 10, 3, 2, 0, 0}, {0, 2, 0, 20, 4, 1, 3, 2}, {0, 0, 0, 10, 3, 2, 0, 1}};
    for (int d = 0; d < 3; d++) {
      for (int w = 0; w < 8; w++) {
        int disk = d;
        int what = w;
        due(want[d][w], "ofDisk(" + d + ", " + w + ")", () -> x.ofDisk(disk, what));
      }
    }
    x.fail(1);
    due(1, "ofDisk(1, 0)", () -> x.ofDisk(1, 0));
    due(3, "ofDisk(1, 1)", () -> x.ofDisk(1, 1));
    x.swap(1);
    x.swap(1);
    due(0, "ofDisk(1, 0)", () -> x.ofDisk(1, 0));
    due(2, "ofDisk(1, 2)", () -> x.ofDisk(1, 2));
    // Above LIMIT for two tenths, PATIENCE 2: one more directly behind them would trip it.
    x.shelf(5, 1);
    x.kind(0, 8, 3, 4);
    x.kind(1, 9, 4, 0);
    x.kind(2, 3, 2, 5);
    x.kind(3, 7, 2, 2);
    x.kind(4, 8, 5, 1);
    x.fuse(20, 2);
    int[][] plan = {{3, 3}, {0, 0}, {3, 4}, {0, 1}, {0, 2}};
    for (int d = 0; d < 5; d++) {
      int disk = d;
      due(plan[d][0], "ofDisk(" + d + ", 6)", () -> x.ofDisk(disk, 6));
      due(plan[d][1], "ofDisk(" + d + ", 7)", () -> x.ofDisk(disk, 7));
    }
    x.fuse(11, 0);
    due(-1, "ofDisk(1, 6)", () -> x.ofDisk(1, 6));
    due(-1, "ofDisk(0, 7)", () -> x.ofDisk(0, 7));
  }

  private void ofBlock() {
    bounds("ofBlock(0, 0) without a shelf", () -> x.ofBlock(0, 0));
    x.shelf(4, 5);
    bounds("ofBlock(15, 4)", () -> x.ofBlock(15, 4));
    bounds("ofBlock(-1, 0)", () -> x.ofBlock(-1, 0));
    bounds("ofBlock(MIN, 0)", () -> x.ofBlock(MIN, 0));
    argument("ofBlock(0, 4)", () -> x.ofBlock(0, 4));
    argument("ofBlock(0, -1)", () -> x.ofBlock(0, -1));
    int[] disks = {1, 2, 3, 0, 2, 3, 0, 1, 3, 0, 1, 2, 1, 2, 3};
    for (int b = 0; b < 15; b++) {
      int block = b;
      due(disks[b], "ofBlock(" + b + ", 0)", () -> x.ofBlock(block, 0));
      due(b / 3, "ofBlock(" + b + ", 1)", () -> x.ofBlock(block, 1));
    }
    x.write(4, 99, 4);
    x.flip(2, 1, 1);
    due(0, "ofBlock(4, 2)", () -> x.ofBlock(4, 2));
    due(99, "ofBlock(4, 3)", () -> x.ofBlock(4, 3));
    x.fail(3);
    due(1, "ofBlock(4, 2)", () -> x.ofBlock(4, 2));
    due(-1, "ofBlock(4, 3)", () -> x.ofBlock(4, 3));
    due(1, "ofBlock(5, 2)", () -> x.ofBlock(5, 2));
    due(0, "ofBlock(3, 2)", () -> x.ofBlock(3, 2));
    due(0, "ofBlock(3, 3)", () -> x.ofBlock(3, 3));
    houses(10, 0, 0);
  }

  private void note() {
    argument("note(-1)", () -> x.note(-1));
    argument("note(3)", () -> x.note(3));
    argument("note(MAX)", () -> x.note(MAX));
    notes(-1, -1, -1);
    x.shelf(3, 2);
    notes(-1, -1, -1);
    x.write(2, 12, 4);
    notes(-1, -1, -1);
    x.write(3, 10, 1);
    notes(3, 10, 6);
    x.swap(0);
    x.fail(1);
    notes(3, 10, 6);
    x.power();
    notes(-1, -1, -1);
  }

  private void house() {
    argument("house(-1)", () -> x.house(-1));
    argument("house(17)", () -> x.house(17));
    argument("house(MIN)", () -> x.house(MIN));
    x.knock();
    houses(13, -1, 0, 0, 1);
    x.shelf(5, 4);
    x.write(9, 1, 4);
    x.fail(4);
    x.flip(0, 1, 1);
    x.flip(0, 0, 2);
    x.read(4);
    x.read(1);
    x.patrol(3);
    x.rebuild(1);
    houses(0, 5, 4, 16, 1, 1, 6, 2, 2, 3, 1, 2, 0, 0, 6, 1, 3, 1);
    x.swap(4);
    houses(0, 5, 4, 16, 1, 0, 6, 2, 2, 3, 1, 2, 0, 0, 6, 0, 3, 1);
    x.patrol(3);
    x.rebuild(3);
    x.off();
    houses(0, 5, 4, 16, 0, 0, 4, 0, 2, 3, 1, 2, 2, 1, 6, 3, 2, 1);
    x.fuse(9, 9);
    houses(13, -1);
  }

  private void row() {
    bounds("row(0) without a shelf", () -> x.row(0));
    x.shelf(5, 6);
    due("+....", "row(0)", () -> x.row(0));
    due("....+", "row(4)", () -> x.row(4));
    due("+....", "row(5)", () -> x.row(5));
    bounds("row(6)", () -> x.row(6));
    bounds("row(-1)", () -> x.row(-1));
    bounds("row(MAX)", () -> x.row(MAX));
    x.flip(1, 1, 1);
    x.flip(3, 1, 1);
    due(".?.?.", "row(1)", () -> x.row(1));
    x.fail(3);
    x.fail(2);
    due(".?xx.", "row(1)", () -> x.row(1));
    due("..xx.", "row(2)", () -> x.row(2));
    x.swap(2);
    due("..?x.", "row(2)", () -> x.row(2));
    x.off();
    due("+.?x.", "row(5), with the power off", () -> x.row(5));
  }

  private void draw() {
    argument("draw(-1)", () -> x.draw(-1));
    argument("draw(1000)", () -> x.draw(1000));
    due(-1, "draw(999) without a shelf", () -> x.draw(999));
    x.shelf(3, 1);
    x.kind(0, 12, 2, 1);
    x.kind(1, 18, 3, 4);
    x.kind(2, 9, 4, 0);
    // By 0, 1, 2 the last one starts at 2, with the END 6; by 0, 2, 1 at 2, too, with the END 5.
    due(5, "house(13)", () -> x.house(13));
    int[] starts = {0, 2, 0};
    for (int d = 0; d < 3; d++) {
      int disk = d;
      due(starts[d], "ofDisk(" + d + ", 6)", () -> x.ofDisk(disk, 6));
    }
    int[] want = {21, 21, 28, 28, 19, 5, 5, 5};
    for (int t = 0; t < want.length; t++) {
      int tenth = t;
      due(want[t], "draw(" + t + ")", () -> x.draw(tenth));
    }
    due(5, "draw(999)", () -> x.draw(999));
    x.fail(1);
    due(28, "draw(2): a failed disk draws, too", () -> x.draw(2));
    argument("draw(1000)", () -> x.draw(1000));
    argument("draw(MIN)", () -> x.draw(MIN));
    x.fuse(17, 9);
    due(39, "draw(0): PATIENCE lets all start at once", () -> x.draw(0));
    x.fuse(4, 9);
    due(-1, "draw(0) without a plan", () -> x.draw(0));
  }

  private void wouldBoot() {
    argument("wouldBoot(21) without a shelf", () -> x.wouldBoot(21));
    state("wouldBoot(0) without a shelf", () -> x.wouldBoot(0));
    x.shelf(3, 1);
    argument("wouldBoot(-1)", () -> x.wouldBoot(-1));
    argument("wouldBoot(21)", () -> x.wouldBoot(21));
    due(0, "wouldBoot(0): 30 is not above LIMIT", () -> x.wouldBoot(0));
    due(40, "wouldBoot(20)", () -> x.wouldBoot(20));
    x.fuse(29, 2);
    due(-1, "wouldBoot(0)", () -> x.wouldBoot(0));
    x.fuse(29, 3);
    due(0, "wouldBoot(0)", () -> x.wouldBoot(0));
    x.fuse(13, 0);
    due(-1, "wouldBoot(2)", () -> x.wouldBoot(2));
    due(-1, "wouldBoot(3)", () -> x.wouldBoot(3));
    x.fuse(14, 0);
    due(-1, "wouldBoot(2)", () -> x.wouldBoot(2));
    due(6, "wouldBoot(3)", () -> x.wouldBoot(3));
    x.write(0, 1, 1);
    due(6, "wouldBoot(3), with the power off", () -> x.wouldBoot(3));
    houses(3, 0);
    notes(0, 1, 1);
    x.shelf(5, 1);
    x.fuse(9, 9);
    due(-1, "wouldBoot(20): 10 idly for good, but late", () -> x.wouldBoot(20));
    x.fuse(10, 9);
    due(80, "wouldBoot(20)", () -> x.wouldBoot(20));
  }

  private void wouldLose() {
    bounds("wouldLose(0, 0) without a shelf", () -> x.wouldLose(0, 0));
    x.shelf(4, 3);
    bounds("wouldLose(4, 4)", () -> x.wouldLose(4, 4));
    bounds("wouldLose(0, 4)", () -> x.wouldLose(0, 4));
    bounds("wouldLose(-1, 0)", () -> x.wouldLose(-1, 0));
    bounds("wouldLose(MAX, MIN)", () -> x.wouldLose(MAX, MIN));
    argument("wouldLose(3, 3)", () -> x.wouldLose(3, 3));
    due(4, "wouldLose(0, 1)", () -> x.wouldLose(0, 1));
    due(5, "wouldLose(3, 1)", () -> x.wouldLose(3, 1));
    x.fail(1);
    argument("wouldLose(1, 1)", () -> x.wouldLose(1, 1));
    due(4, "wouldLose(0, 1)", () -> x.wouldLose(0, 1));
    due(6, "wouldLose(0, 2)", () -> x.wouldLose(0, 2));
    x.flip(3, 1, 1);
    due(7, "wouldLose(0, 2)", () -> x.wouldLose(0, 2));
    due(1, "house(8)", () -> x.house(8));
    due(1, "house(4)", () -> x.house(4));
    x.off();
    due(7, "wouldLose(2, 0), with the power off", () -> x.wouldLose(2, 0));
  }

  private void isSound() {
    due(true, "isSound() without a shelf", x::isSound);
    x.shelf(3, 2);
    x.write(0, 7, 4);
    due(true, "isSound()", x::isSound);
    x.write(1, 9, 2);
    due(true, "isSound(), but for the stripe of the note", x::isSound);
    x.fail(1);
    due(true, "isSound(), a hurt stripe with a note", x::isSound);
    x.power();
    due(true, "isSound()", x::isSound);
    x.flip(2, 0, 1);
    due(true, "isSound(): what is lost does not count", x::isSound);
    x.giveUp(0);
    due(true, "isSound(): given up, it counts as 0", x::isSound);
    x.fuse(1, 0);
    due(true, "isSound() without a plan", x::isSound);
  }

  private void knock() {
    due(1, "knock()", x::knock);
    due(2, "knock()", x::knock);
    x.shelf(3, 1);
    due(3, "knock()", x::knock);
    x.off();
    due(4, "knock()", x::knock);
    houses(16, 4);
  }

  /** By the document's words, from the answers of the other methods. */
  private long digestDue() {
    long d = 6661;
    int disks = x.house(0);
    int stripes = x.house(1);
    int blocks = x.house(2);
    for (int what = 0; what < 17; what++) {
      d = 31 * d + x.house(what);
    }
    for (int disk = 0; disk < disks; disk++) {
      for (int what = 0; what < 8; what++) {
        d = 31 * d + x.ofDisk(disk, what);
      }
    }
    for (int stripe = 0; stripe < stripes; stripe++) {
      for (int disk = 0; disk < disks; disk++) {
        for (int what = 0; what < 5; what++) {
          d = 31 * d + x.cell(disk, stripe, what);
        }
      }
    }
    for (int block = 0; block < blocks; block++) {
      for (int what = 0; what < 4; what++) {
        d = 31 * d + x.ofBlock(block, what);
      }
    }
    for (int what = 0; what < 3; what++) {
      d = 31 * d + x.note(what);
    }
    for (int tenth = 0; tenth < 10; tenth++) {
      d = 31 * d + x.draw(tenth);
    }
    return 31 * d + (x.isSound() ? 1 : 0);
  }

  private void digest() {
    due(digestDue(), "digest() without a shelf", x::digest);
    x.shelf(4, 3);
    due(digestDue(), "digest()", x::digest);
    x.write(5, 250, 4);
    x.flip(1, 2, 9);
    x.fail(3);
    x.write(0, 77, 3);
    x.knock();
    due(digestDue(), "digest()", x::digest);
    long before = x.digest();
    due(before, "digest() again", x::digest);
  }

  private void digestWithoutPlan() {
    x.shelf(4, 3);
    x.fuse(1, 0);
    due(digestDue(), "digest() without a plan", x::digest);
  }
}
