/** A drawer of disks on one thin fuse. What it must do, ../shared/DOC.md tells. */
public final class Staggershelf {
  private static final int NONE = -1;
  private static final int FEWEST_DISKS = 3;
  private static final int MOST_DISKS = 5;
  private static final int MOST_STRIPES = 8;
  private static final int MOST_VALUE = 255;
  private static final int MOST_STEPS = 4;
  private static final int MOST_PEAK = 30;
  private static final int MOST_SPIN = 9;
  private static final int MOST_IDLE = 9;
  private static final int MOST_LIMIT = 90;
  private static final int MOST_PATIENCE = 9;
  private static final int MOST_GAP = 20;
  private static final int LATEST_START = 60;
  private static final int LATEST_ASKED = 999;

  private final Rack rack = new Rack();
  private final Starts starts = new Starts();
  private boolean isOn;
  private int noteBlock = NONE;
  private int noteValue = NONE;
  private int noteSum = NONE;
  private int rebuildPlace;
  private int patrolPlace;
  private int writes;
  private int reads;
  private int mended;
  private int offs;
  private int refused;

  public Staggershelf() {
  }

  public int shelf(int disks, int stripes) throws IllegalArgumentException {
    if (disks < FEWEST_DISKS || disks > MOST_DISKS) {
      throw new IllegalArgumentException("disks must be 3 to 5");
    }
    if (stripes < 1 || stripes > MOST_STRIPES) {
      throw new IllegalArgumentException("stripes must be 1 to 8");
    }
    rack.build(disks, stripes);
    starts.planFor(disks);
    isOn = true;
    dropNote();
    rebuildPlace = 0;
    patrolPlace = 0;
    writes = 0;
    reads = 0;
    mended = 0;
    offs = 0;
    return rack.blocks();
  }

  public boolean write(int block, int value, int steps)
      throws IndexOutOfBoundsException, IllegalArgumentException, IllegalStateException {
    if (!rack.hasBlock(block)) {
      throw new IndexOutOfBoundsException("no such block");
    }
    if (value < 0 || value > MOST_VALUE || steps < 0 || steps > MOST_STEPS) {
      throw new IllegalArgumentException("value must be 0 to 255, steps 0 to 4");
    }
    int stripe = rack.stripeOf(block);
    if (!isOn || rack.badCells(stripe) > 1) {
      throw new IllegalStateException("the power is off, or the stripe is broken");
    }
    mended += rack.mendStripe(stripe);
    if (steps >= 1) {
      keepNote(block, value);
    }
    if (steps >= 2) {
      layNotedValue();
    }
    if (steps >= 3) {
      layNotedSum();
    }
    if (steps >= 4) {
      dropNote();
    } else {
      goOff();
    }
    return steps >= 1;
  }

  public int read(int block) throws IndexOutOfBoundsException, IllegalStateException {
    if (!rack.hasBlock(block)) {
      throw new IndexOutOfBoundsException("no such block");
    }
    if (!isOn) {
      throw new IllegalStateException("the power is off");
    }
    int disk = rack.diskOf(block);
    int stripe = rack.stripeOf(block);
    int answer = rack.shouldHave(disk, stripe);
    // A read mends its own cell alone: a bad one elsewhere in the stripe waits.
    if (rack.isBad(disk, stripe)) {
      mended += rack.mendStripe(stripe);
    }
    reads++;
    return answer;
  }

  public int fail(int disk) throws IndexOutOfBoundsException, IllegalStateException {
    if (!rack.hasDisk(disk)) {
      throw new IndexOutOfBoundsException("no such disk");
    }
    if (rack.hasFailed(disk)) {
      throw new IllegalStateException("the disk has failed already");
    }
    rack.setFailed(disk);
    return rack.lostBlocks(NONE, NONE);
  }

  public int swap(int disk) throws IndexOutOfBoundsException {
    if (!rack.hasDisk(disk)) {
      throw new IndexOutOfBoundsException("no such disk");
    }
    rack.putNewDisk(disk);
    rebuildPlace = 0;
    return rack.lostBlocks(NONE, NONE);
  }

  public int flip(int disk, int stripe, int bits)
      throws IndexOutOfBoundsException, IllegalArgumentException, IllegalStateException {
    if (!rack.hasDisk(disk) || !rack.hasStripe(stripe)) {
      throw new IndexOutOfBoundsException("no such disk, or stripe");
    }
    if (bits < 1 || bits > MOST_VALUE) {
      throw new IllegalArgumentException("bits must be 1 to 255");
    }
    if (rack.hasFailed(disk)) {
      throw new IllegalStateException("the disk has failed");
    }
    rack.turnBits(disk, stripe, bits);
    return rack.valueAt(disk, stripe);
  }

  public int rebuild(int stripes) throws IllegalArgumentException, IllegalStateException {
    refuseRound(stripes);
    int count = mendFrom(rebuildPlace, stripes);
    rebuildPlace = rack.stripeBehind(rebuildPlace, stripes);
    return count;
  }

  public int patrol(int stripes) throws IllegalArgumentException, IllegalStateException {
    refuseRound(stripes);
    int count = mendFrom(patrolPlace, stripes);
    patrolPlace = rack.stripeBehind(patrolPlace, stripes);
    return count;
  }

  public int giveUp(int stripe) throws IndexOutOfBoundsException, IllegalStateException {
    if (!rack.hasStripe(stripe)) {
      throw new IndexOutOfBoundsException("no such stripe");
    }
    if (!isOn || rack.badCells(stripe) < 2) {
      throw new IllegalStateException("the power is off, or the stripe is not broken");
    }
    return rack.startAnew(stripe);
  }

  public int kind(int disk, int peak, int spin, int idle)
      throws IndexOutOfBoundsException, IllegalArgumentException {
    if (disk < 0 || disk >= MOST_DISKS) {
      throw new IndexOutOfBoundsException("disk must be 0 to 4");
    }
    if (peak < 1 || peak > MOST_PEAK || spin < 1 || spin > MOST_SPIN || idle < 0 || idle > MOST_IDLE) {
      throw new IllegalArgumentException("peak must be 1 to 30, spin 1 to 9, idle 0 to 9");
    }
    int before = starts.peakOf(disk);
    starts.tellKind(disk, peak, spin, idle);
    return before;
  }

  public int fuse(int limit, int patience) throws IllegalArgumentException {
    if (limit < 1 || limit > MOST_LIMIT || patience < 0 || patience > MOST_PATIENCE) {
      throw new IllegalArgumentException("limit must be 1 to 90, patience 0 to 9");
    }
    int before = starts.limit;
    starts.tellFuse(limit, patience);
    return before;
  }

  public boolean off() throws IllegalStateException {
    if (rack.disks == 0) {
      throw new IllegalStateException("there is no shelf");
    }
    boolean wasOn = isOn;
    if (wasOn) {
      goOff();
    }
    return wasOn;
  }

  public int power() throws IllegalStateException {
    if (rack.disks == 0 || isOn || starts.endOfPlan() == NONE) {
      throw new IllegalStateException("there is no shelf, the power is on, or there is no plan");
    }
    goOn();
    return starts.endOfPlan();
  }

  public int boot(int gap) throws IllegalArgumentException, IllegalStateException {
    if (gap < 0 || gap > MOST_GAP) {
      throw new IllegalArgumentException("gap must be 0 to 20");
    }
    if (rack.disks == 0 || isOn) {
      throw new IllegalStateException("there is no shelf, or the power is on");
    }
    int last = starts.lastStartByGap(gap);
    if (last != NONE) {
      goOn();
    }
    return last;
  }

  public int cell(int disk, int stripe, int what)
      throws IndexOutOfBoundsException, IllegalArgumentException {
    if (!rack.hasDisk(disk) || !rack.hasStripe(stripe)) {
      throw new IndexOutOfBoundsException("no such disk, or stripe");
    }
    switch (what) {
      case 0:
        return rack.valueAt(disk, stripe);
      case 1:
        return rack.markAt(disk, stripe);
      case 2:
        return rack.isBad(disk, stripe) ? 1 : 0;
      case 3:
        return rack.blockIn(disk, stripe);
      case 4:
        return rack.shouldHave(disk, stripe);
      default:
        throw new IllegalArgumentException("what must be 0 to 4");
    }
  }

  public int ofDisk(int disk, int what) throws IndexOutOfBoundsException, IllegalArgumentException {
    if (!rack.hasDisk(disk)) {
      throw new IndexOutOfBoundsException("no such disk");
    }
    switch (what) {
      case 0:
        return rack.hasFailed(disk) ? 1 : 0;
      case 1:
        return rack.badCellsOf(disk);
      case 2:
        return rack.swapsOf(disk);
      case 3:
        return starts.peakOf(disk);
      case 4:
        return starts.spinOf(disk);
      case 5:
        return starts.idleOf(disk);
      case 6:
        return starts.startInPlan(disk);
      case 7:
        return starts.placeInPlan(disk);
      default:
        throw new IllegalArgumentException("what must be 0 to 7");
    }
  }

  public int ofBlock(int block, int what) throws IndexOutOfBoundsException, IllegalArgumentException {
    if (!rack.hasBlock(block)) {
      throw new IndexOutOfBoundsException("no such block");
    }
    int disk = rack.diskOf(block);
    int stripe = rack.stripeOf(block);
    switch (what) {
      case 0:
        return disk;
      case 1:
        return stripe;
      case 2:
        return rack.isLost(disk, stripe) ? 1 : 0;
      case 3:
        return rack.shouldHave(disk, stripe);
      default:
        throw new IllegalArgumentException("what must be 0 to 3");
    }
  }

  public int note(int what) throws IllegalArgumentException {
    switch (what) {
      case 0:
        return noteBlock;
      case 1:
        return noteValue;
      case 2:
        return noteSum;
      default:
        throw new IllegalArgumentException("what must be 0 to 2");
    }
  }

  public int house(int what) throws IllegalArgumentException {
    switch (what) {
      case 0:
        return rack.disks;
      case 1:
        return rack.stripes;
      case 2:
        return rack.blocks();
      case 3:
        return isOn ? 1 : 0;
      case 4:
        return rack.failedDisks();
      case 5:
        return rack.allBadCells();
      case 6:
        return rack.hurtStripes();
      case 7:
        return rack.brokenStripes();
      case 8:
        return rack.lostBlocks(NONE, NONE);
      case 9:
        return writes;
      case 10:
        return reads;
      case 11:
        return mended;
      case 12:
        return offs;
      case 13:
        return starts.endOfPlan();
      case 14:
        return rebuildPlace;
      case 15:
        return patrolPlace;
      case 16:
        return refused;
      default:
        throw new IllegalArgumentException("what must be 0 to 16");
    }
  }

  public String row(int stripe) throws IndexOutOfBoundsException {
    if (!rack.hasStripe(stripe)) {
      throw new IndexOutOfBoundsException("no such stripe");
    }
    StringBuilder text = new StringBuilder();
    for (int disk = 0; disk < rack.disks; disk++) {
      text.append(signOf(disk, stripe));
    }
    return text.toString();
  }

  public int draw(int tenth) throws IllegalArgumentException {
    if (tenth < 0 || tenth > LATEST_ASKED) {
      throw new IllegalArgumentException("tenth must be 0 to 999");
    }
    return starts.drawByPlan(tenth);
  }

  public int wouldBoot(int gap) throws IllegalArgumentException, IllegalStateException {
    if (gap < 0 || gap > MOST_GAP) {
      throw new IllegalArgumentException("gap must be 0 to 20");
    }
    if (rack.disks == 0) {
      throw new IllegalStateException("there is no shelf");
    }
    return starts.lastStartByGap(gap);
  }

  public int wouldLose(int first, int second) throws IndexOutOfBoundsException, IllegalArgumentException {
    if (!rack.hasDisk(first) || !rack.hasDisk(second)) {
      throw new IndexOutOfBoundsException("no such disk");
    }
    if (first == second) {
      throw new IllegalArgumentException("both are the same disk");
    }
    return rack.lostBlocks(first, second);
  }

  public boolean isSound() {
    int noted = rack.hasBlock(noteBlock) ? rack.stripeOf(noteBlock) : NONE;
    for (int stripe = 0; stripe < rack.stripes; stripe++) {
      if (stripe != noted && !rack.isStripeSound(stripe)) {
        return false;
      }
    }
    return !starts.planTrips();
  }

  public int knock() {
    refused++;
    return refused;
  }

  public long digest() {
    long d = 6661;
    for (int what = 0; what <= 16; what++) {
      d = d * 31 + house(what);
    }
    for (int disk = 0; disk < rack.disks; disk++) {
      for (int what = 0; what <= 7; what++) {
        d = d * 31 + ofDisk(disk, what);
      }
    }
    d = digestOfCells(d);
    for (int block = 0; block < rack.blocks(); block++) {
      for (int what = 0; what <= 3; what++) {
        d = d * 31 + ofBlock(block, what);
      }
    }
    for (int what = 0; what <= 2; what++) {
      d = d * 31 + note(what);
    }
    for (int tenth = 0; tenth <= 9; tenth++) {
      d = d * 31 + draw(tenth);
    }
    return d * 31 + (isSound() ? 1 : 0);
  }

  private long digestOfCells(long before) {
    long d = before;
    for (int stripe = 0; stripe < rack.stripes; stripe++) {
      for (int disk = 0; disk < rack.disks; disk++) {
        for (int what = 0; what <= 4; what++) {
          d = d * 31 + cell(disk, stripe, what);
        }
      }
    }
    return d;
  }

  private char signOf(int disk, int stripe) {
    if (rack.hasFailed(disk)) {
      return 'x';
    }
    if (rack.isBad(disk, stripe)) {
      return '?';
    }
    return rack.sumDisk(stripe) == disk ? '+' : '.';
  }

  private void keepNote(int block, int value) {
    int stripe = rack.stripeOf(block);
    int sum = rack.shouldHave(rack.sumDisk(stripe), stripe);
    int old = rack.shouldHave(rack.diskOf(block), stripe);
    noteBlock = block;
    noteValue = value;
    noteSum = sum ^ old ^ value;
    rack.countAsWritten(block, value);
    writes++;
  }

  private void layNotedValue() {
    rack.lay(rack.diskOf(noteBlock), rack.stripeOf(noteBlock), noteValue);
  }

  private void layNotedSum() {
    int stripe = rack.stripeOf(noteBlock);
    rack.lay(rack.sumDisk(stripe), stripe, noteSum);
  }

  private void dropNote() {
    noteBlock = NONE;
    noteValue = NONE;
    noteSum = NONE;
  }

  private void goOff() {
    isOn = false;
    offs++;
  }

  private void goOn() {
    isOn = true;
    if (rack.hasBlock(noteBlock)) {
      layNotedValue();
      layNotedSum();
      dropNote();
    }
  }

  /** A rebuilding and a patrol are refused alike. */
  private void refuseRound(int stripes) {
    if (stripes < 1 || stripes > MOST_STRIPES) {
      throw new IllegalArgumentException("stripes must be 1 to 8");
    }
    if (rack.disks == 0 || !isOn) {
      throw new IllegalStateException("there is no shelf, or the power is off");
    }
  }

  private int mendFrom(int first, int count) {
    int sum = 0;
    for (int i = 0; i < count; i++) {
      sum += rack.mendStripe(rack.stripeBehind(first, i));
    }
    mended += sum;
    return sum;
  }

  /** The disks of the shelf (none without one), with their cells. */
  private static final class Rack {
    int disks;
    int stripes;
    private final int[] values = new int[MOST_DISKS * MOST_STRIPES];
    private final int[] marks = new int[MOST_DISKS * MOST_STRIPES];
    // What was written last into the block of each data cell.
    private final int[] written = new int[MOST_DISKS * MOST_STRIPES];
    private final boolean[] failed = new boolean[MOST_DISKS];
    private final int[] swaps = new int[MOST_DISKS];

    void build(int disksThen, int stripesThen) {
      disks = disksThen;
      stripes = stripesThen;
      for (int disk = 0; disk < MOST_DISKS; disk++) {
        failed[disk] = false;
        swaps[disk] = 0;
        for (int stripe = 0; stripe < MOST_STRIPES; stripe++) {
          written[disk * MOST_STRIPES + stripe] = 0;
          lay(disk, stripe, 0);
        }
      }
    }

    boolean hasDisk(int disk) {
      return disk >= 0 && disk < disks;
    }

    boolean hasStripe(int stripe) {
      return stripe >= 0 && stripe < stripes;
    }

    boolean hasBlock(int block) {
      return block >= 0 && block < blocks();
    }

    int blocks() {
      return disks > 0 ? (disks - 1) * stripes : 0;
    }

    int stripeOf(int block) {
      return disks > 1 ? block / (disks - 1) : 0;
    }

    int diskOf(int block) {
      int place = disks > 1 ? block % (disks - 1) : 0;
      return place < sumDisk(stripeOf(block)) ? place : place + 1;
    }

    int blockIn(int disk, int stripe) {
      int sumDisk = sumDisk(stripe);
      if (disk == sumDisk) {
        return NONE;
      }
      return stripe * (disks - 1) + (disk < sumDisk ? disk : disk - 1);
    }

    int sumDisk(int stripe) {
      return disks > 0 ? stripe % disks : 0;
    }

    int stripeBehind(int first, int count) {
      return stripes > 0 ? (first + count) % stripes : 0;
    }

    int valueAt(int disk, int stripe) {
      int at = indexOf(disk, stripe);
      return at == NONE ? 0 : values[at];
    }

    int markAt(int disk, int stripe) {
      int at = indexOf(disk, stripe);
      return at == NONE ? NONE : marks[at];
    }

    boolean hasFailed(int disk) {
      return disk >= 0 && disk < MOST_DISKS && failed[disk];
    }

    int swapsOf(int disk) {
      return disk >= 0 && disk < MOST_DISKS ? swaps[disk] : 0;
    }

    boolean isBad(int disk, int stripe) {
      int at = indexOf(disk, stripe);
      return at == NONE || hasFailed(disk) || marks[at] != fittingMark(values[at], stripe);
    }

    boolean isLost(int disk, int stripe) {
      return isBad(disk, stripe) && badCells(stripe) > 1;
    }

    int badCells(int stripe) {
      int count = 0;
      for (int disk = 0; disk < disks; disk++) {
        count += isBad(disk, stripe) ? 1 : 0;
      }
      return count;
    }

    int badCellsOf(int disk) {
      int count = 0;
      for (int stripe = 0; stripe < stripes; stripe++) {
        count += isBad(disk, stripe) ? 1 : 0;
      }
      return count;
    }

    int allBadCells() {
      int count = 0;
      for (int stripe = 0; stripe < stripes; stripe++) {
        count += badCells(stripe);
      }
      return count;
    }

    int hurtStripes() {
      int count = 0;
      for (int stripe = 0; stripe < stripes; stripe++) {
        count += badCells(stripe) == 1 ? 1 : 0;
      }
      return count;
    }

    int brokenStripes() {
      int count = 0;
      for (int stripe = 0; stripe < stripes; stripe++) {
        count += badCells(stripe) > 1 ? 1 : 0;
      }
      return count;
    }

    int failedDisks() {
      int count = 0;
      for (int disk = 0; disk < disks; disk++) {
        count += hasFailed(disk) ? 1 : 0;
      }
      return count;
    }

    /** Counts as if these two disks had failed, too (NONE is no disk). */
    int lostBlocks(int first, int second) {
      int count = 0;
      for (int stripe = 0; stripe < stripes; stripe++) {
        int bad = 0;
        int badData = 0;
        for (int disk = 0; disk < disks; disk++) {
          if (disk == first || disk == second || isBad(disk, stripe)) {
            bad++;
            badData += disk == sumDisk(stripe) ? 0 : 1;
          }
        }
        count += bad > 1 ? badData : 0;
      }
      return count;
    }

    int shouldHave(int disk, int stripe) {
      if (!isBad(disk, stripe)) {
        return valueAt(disk, stripe);
      }
      return badCells(stripe) > 1 ? NONE : xorOfOthers(disk, stripe);
    }

    private int xorOfOthers(int disk, int stripe) {
      int xor = 0;
      for (int other = 0; other < disks; other++) {
        xor ^= other == disk ? 0 : valueAt(other, stripe);
      }
      return xor;
    }

    void lay(int disk, int stripe, int value) {
      int at = indexOf(disk, stripe);
      if (at != NONE && !hasFailed(disk)) {
        values[at] = value;
        marks[at] = fittingMark(value, stripe);
      }
    }

    /** Answers how many cells that mended: 1, or 0 of a stripe that is not hurt, or hurt by a failed disk. */
    int mendStripe(int stripe) {
      if (badCells(stripe) != 1) {
        return 0;
      }
      for (int disk = 0; disk < disks; disk++) {
        if (isBad(disk, stripe) && !hasFailed(disk)) {
          lay(disk, stripe, xorOfOthers(disk, stripe));
          return 1;
        }
      }
      return 0;
    }

    void setFailed(int disk) {
      if (hasDisk(disk)) {
        failed[disk] = true;
      }
    }

    void putNewDisk(int disk) {
      if (!hasDisk(disk)) {
        return;
      }
      failed[disk] = false;
      swaps[disk]++;
      for (int stripe = 0; stripe < stripes; stripe++) {
        int at = indexOf(disk, stripe);
        if (at != NONE) {
          values[at] = 0;
          marks[at] = NONE;
        }
      }
    }

    void turnBits(int disk, int stripe, int bits) {
      int at = indexOf(disk, stripe);
      if (at != NONE) {
        values[at] ^= bits;
      }
    }

    void countAsWritten(int block, int value) {
      int at = indexOf(diskOf(block), stripeOf(block));
      if (at != NONE) {
        written[at] = value;
      }
    }

    /** Gives up a broken stripe; answers the set of the disks whose blocks in it were lost. */
    int startAnew(int stripe) {
      int sumDisk = sumDisk(stripe);
      int lost = 0;
      int xor = 0;
      for (int disk = 0; disk < disks; disk++) {
        if (disk == sumDisk) {
          continue;
        }
        if (isBad(disk, stripe)) {
          lost |= 1 << disk;
          countAsWritten(blockIn(disk, stripe), 0);
          lay(disk, stripe, 0);
        } else {
          xor ^= valueAt(disk, stripe);
        }
      }
      lay(sumDisk, stripe, xor);
      return lost;
    }

    boolean isStripeSound(int stripe) {
      int sumDisk = sumDisk(stripe);
      int bad = badCells(stripe);
      if (bad == 0 && valueAt(sumDisk, stripe) != xorOfOthers(sumDisk, stripe)) {
        return false;
      }
      for (int disk = 0; disk < disks; disk++) {
        int at = indexOf(disk, stripe);
        boolean isLost = bad > 1 && isBad(disk, stripe);
        if (disk != sumDisk && at != NONE && !isLost && shouldHave(disk, stripe) != written[at]) {
          return false;
        }
      }
      return true;
    }

    private int fittingMark(int value, int stripe) {
      return (7 * value + stripe) % 256;
    }

    private int indexOf(int disk, int stripe) {
      boolean isThere = disk >= 0 && disk < disks && stripe >= 0 && stripe < stripes;
      return isThere ? disk * MOST_STRIPES + stripe : NONE;
    }
  }

  /** What the disks draw, the fuse, and the plan of starts, made anew as one of these changes. */
  private static final class Starts {
    // From here on all disks draw idly, for longer than any patience lasts, even by the widest gap.
    private static final int LAST_TENTH = (MOST_DISKS - 1) * MOST_GAP + MOST_SPIN + MOST_PATIENCE + 1;

    int limit = 30;
    private int patience;
    private int disks;
    private final int[] peaks = {10, 10, 10, 10, 10};
    private final int[] spins = {3, 3, 3, 3, 3};
    private final int[] idles = {2, 2, 2, 2, 2};
    private int planEnd = NONE;
    private final int[] planStarts = new int[MOST_DISKS];
    private final int[] planPlaces = new int[MOST_DISKS];
    private final int[] triedStarts = new int[MOST_DISKS];
    private final int[] triedPlaces = new int[MOST_DISKS];
    // By places: how many tenths ahead of the start there, one behind the other, are above the limit.
    private final int[] triedRuns = new int[MOST_DISKS];
    // What the disks that are placed draw idly, and how much more than that at each tenth.
    private int idleDraw;
    private final int[] surges = new int[LAST_TENTH + 1];
    private final int[] gapStarts = new int[MOST_DISKS];

    void planFor(int disksThen) {
      disks = disksThen;
      makePlan();
    }

    void tellKind(int disk, int peak, int spin, int idle) {
      if (disk >= 0 && disk < MOST_DISKS) {
        peaks[disk] = peak;
        spins[disk] = spin;
        idles[disk] = idle;
        makePlan();
      }
    }

    void tellFuse(int limitThen, int patienceThen) {
      limit = limitThen;
      patience = patienceThen;
      makePlan();
    }

    int peakOf(int disk) {
      return disk >= 0 && disk < MOST_DISKS ? peaks[disk] : 0;
    }

    int spinOf(int disk) {
      return disk >= 0 && disk < MOST_DISKS ? spins[disk] : 0;
    }

    int idleOf(int disk) {
      return disk >= 0 && disk < MOST_DISKS ? idles[disk] : 0;
    }

    int endOfPlan() {
      return planEnd;
    }

    int startInPlan(int disk) {
      return planEnd != NONE && disk >= 0 && disk < MOST_DISKS ? planStarts[disk] : NONE;
    }

    int placeInPlan(int disk) {
      return planEnd != NONE && disk >= 0 && disk < MOST_DISKS ? planPlaces[disk] : NONE;
    }

    int drawByPlan(int tenth) {
      return planEnd == NONE ? NONE : drawBy(planStarts, tenth);
    }

    boolean planTrips() {
      return planEnd != NONE && trips(planStarts);
    }

    int lastStartByGap(int gap) {
      int start = 0;
      int last = NONE;
      for (int disk = 0; disk < disks && disk < MOST_DISKS; disk++) {
        gapStarts[disk] = start;
        last = start;
        start += gap;
      }
      return trips(gapStarts) ? NONE : last;
    }

    private int drawBy(int[] startsOfAll, int tenth) {
      int sum = 0;
      for (int disk = 0; disk < disks && disk < startsOfAll.length; disk++) {
        if (tenth >= startsOfAll[disk]) {
          sum += drawSince(disk, tenth - startsOfAll[disk]);
        }
      }
      return sum;
    }

    private int drawSince(int disk, int tenths) {
      if (disk < 0 || disk >= MOST_DISKS) {
        return 0;
      }
      return tenths < spins[disk] ? peaks[disk] : idles[disk];
    }

    private boolean trips(int[] startsOfAll) {
      int run = 0;
      for (int tenth = 0; tenth <= LAST_TENTH; tenth++) {
        run = drawBy(startsOfAll, tenth) > limit ? run + 1 : 0;
        if (run > patience) {
          return true;
        }
      }
      return false;
    }

    private void makePlan() {
      planEnd = NONE;
      for (int disk = 0; disk < MOST_DISKS; disk++) {
        triedPlaces[disk] = NONE;
      }
      // Without this, tripsWith would have to look at the tenths behind the end, too.
      if (disks > 0 && allIdle() <= limit) {
        tryPlace(0, 0, 0);
      }
    }

    private int allIdle() {
      int sum = 0;
      for (int disk = 0; disk < disks; disk++) {
        sum += idleOf(disk);
      }
      return sum;
    }

    /** Tries the orders by rising disks, so that of several with the same end the first one stays. */
    private void tryPlace(int place, int earliest, int end) {
      if (place >= disks || place >= MOST_DISKS) {
        keepTried(end);
        return;
      }
      for (int disk = 0; disk < disks && disk < MOST_DISKS; disk++) {
        if (triedPlaces[disk] == NONE) {
          tryDisk(disk, place, earliest, end);
        }
      }
    }

    /** The recursion with tryPlace is as deep as there are disks. */
    private void tryDisk(int disk, int place, int earliest, int end) {
      int start = leastStart(disk, place, earliest, end);
      int endThen = Math.max(end, start + spinOf(disk));
      // An end only grows by further disks: what is not ahead of the best here never will be.
      boolean isWorse = planEnd != NONE && endThen >= planEnd;
      if (start == NONE || isWorse || disk < 0 || disk >= MOST_DISKS) {
        return;
      }
      triedPlaces[disk] = place;
      triedStarts[disk] = start;
      addDraw(disk, start, 1);
      tryPlace(place + 1, start, endThen);
      addDraw(disk, start, -1);
      triedPlaces[disk] = NONE;
    }

    private void keepTried(int end) {
      planEnd = end;
      for (int disk = 0; disk < MOST_DISKS; disk++) {
        planStarts[disk] = triedStarts[disk];
        planPlaces[disk] = triedPlaces[disk];
      }
    }

    private void addDraw(int disk, int start, int times) {
      int idle = idleOf(disk);
      int end = start + spinOf(disk);
      idleDraw += times * idle;
      for (int tenth = Math.max(start, 0); tenth < end && tenth < surges.length; tenth++) {
        surges[tenth] += times * (peakOf(disk) - idle);
      }
    }

    /** All that are placed have started by the earliest tenth, so that ahead of the start nothing changes. */
    private int leastStart(int disk, int place, int earliest, int end) {
      int run = place > 0 && place <= MOST_DISKS ? triedRuns[place - 1] : 0;
      // One tenth behind the end the others have been idle already: a later start changes nothing.
      int latest = Math.min(LATEST_START, end + 1);
      for (int start = Math.max(earliest, 0); start <= latest && start < surges.length; start++) {
        if (!tripsWith(disk, start, Math.max(end, start + spinOf(disk)), run)) {
          keepRun(place, run);
          return start;
        }
        run = idleDraw + surges[start] > limit ? run + 1 : 0;
      }
      return NONE;
    }

    private void keepRun(int place, int run) {
      if (place >= 0 && place < MOST_DISKS) {
        triedRuns[place] = run;
      }
    }

    /** Looks from its start to the end alone: ahead of it nothing trips, behind it all are idle. */
    private boolean tripsWith(int disk, int start, int end, int runAhead) {
      int run = runAhead;
      for (int tenth = Math.max(start, 0); tenth < end && tenth < surges.length; tenth++) {
        int drawn = idleDraw + surges[tenth] + drawSince(disk, tenth - start);
        run = drawn > limit ? run + 1 : 0;
        if (run > patience) {
          return true;
        }
      }
      return false;
    }
  }
}
