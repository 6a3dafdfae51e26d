import java.util.ArrayList;
import java.util.Arrays;
import java.util.HashMap;
import java.util.List;
import java.util.Map;

/**
 * The document once more, as literally and slowly as it goes, to compare the program with.
 * It shares no code with the program: every order of starts is tried, every tenth looked at.
 */
final class Model {
  static final int NONE = -1;
  private static final int FOREVER = 200;

  int n;
  int s;
  int[][] value;
  int[][] mark;
  int[][] written;
  boolean[] failed;
  int[] swaps;
  int[][] kinds = {{10, 3, 2}, {10, 3, 2}, {10, 3, 2}, {10, 3, 2}, {10, 3, 2}};
  int limit = 30;
  int patience;
  boolean on;
  int[] note;
  int rebuildAt;
  int patrolAt;
  int writes;
  int reads;
  int mended;
  int offs;
  int refused;

  int shelf(int disks, int stripes) {
    if (disks < 3 || disks > 5 || stripes < 1 || stripes > 8) {
      throw new IllegalArgumentException();
    }
    n = disks;
    s = stripes;
    value = new int[n][s];
    mark = new int[n][s];
    written = new int[n][s];
    failed = new boolean[n];
    swaps = new int[n];
    for (int d = 0; d < n; d++) {
      for (int t = 0; t < s; t++) {
        mark[d][t] = t;
      }
    }
    on = true;
    note = null;
    rebuildAt = patrolAt = writes = reads = mended = offs = 0;
    return blocks().size();
  }

  /** Each block as {disk, stripe}, by its number. */
  List<int[]> blocks() {
    List<int[]> all = new ArrayList<>();
    for (int t = 0; t < s; t++) {
      for (int d = 0; d < n; d++) {
        if (d != t % n) {
          all.add(new int[] {d, t});
        }
      }
    }
    return all;
  }

  int[] block(int block) {
    if (block < 0 || block >= blocks().size()) {
      throw new IndexOutOfBoundsException();
    }
    return blocks().get(block);
  }

  boolean bad(int d, int t) {
    return failed[d] || mark[d][t] != (7 * value[d][t] + t) % 256;
  }

  List<Integer> bads(int t) {
    List<Integer> all = new ArrayList<>();
    for (int d = 0; d < n; d++) {
      if (bad(d, t)) {
        all.add(d);
      }
    }
    return all;
  }

  int should(int d, int t) {
    if (!bad(d, t)) {
      return value[d][t];
    }
    if (bads(t).size() >= 2) {
      return NONE;
    }
    int x = 0;
    for (int e = 0; e < n; e++) {
      if (e != d) {
        x ^= value[e][t];
      }
    }
    return x;
  }

  void lay(int d, int t, int v) {
    if (!failed[d]) {
      value[d][t] = v;
      mark[d][t] = (7 * v + t) % 256;
    }
  }

  int mend(int t) {
    List<Integer> all = bads(t);
    if (all.size() != 1 || failed[all.get(0)]) {
      return 0;
    }
    lay(all.get(0), t, should(all.get(0), t));
    mended++;
    return 1;
  }

  boolean write(int b, int v, int steps) {
    int[] where = block(b);
    if (v < 0 || v > 255 || steps < 0 || steps > 4) {
      throw new IllegalArgumentException();
    }
    int d = where[0];
    int t = where[1];
    if (!on || bads(t).size() >= 2) {
      throw new IllegalStateException();
    }
    mend(t);
    if (steps > 0) {
      note = new int[] {b, v, should(t % n, t) ^ should(d, t) ^ v};
      written[d][t] = v;
      writes++;
    }
    if (steps > 1) {
      lay(d, t, v);
    }
    if (steps > 2) {
      lay(t % n, t, note[2]);
    }
    if (steps > 3) {
      note = null;
    } else {
      on = false;
      offs++;
    }
    return steps > 0;
  }

  int read(int b) {
    int[] where = block(b);
    if (!on) {
      throw new IllegalStateException();
    }
    reads++;
    int answer = should(where[0], where[1]);
    if (bad(where[0], where[1])) {
      mend(where[1]);
    }
    return answer;
  }

  void disk(int d) {
    if (d < 0 || d >= n) {
      throw new IndexOutOfBoundsException();
    }
  }

  void stripe(int t) {
    if (t < 0 || t >= s) {
      throw new IndexOutOfBoundsException();
    }
  }

  int lost() {
    int count = 0;
    for (int[] where : blocks()) {
      count += lostAt(where) ? 1 : 0;
    }
    return count;
  }

  boolean lostAt(int[] where) {
    return bad(where[0], where[1]) && bads(where[1]).size() >= 2;
  }

  int fail(int d) {
    disk(d);
    if (failed[d]) {
      throw new IllegalStateException();
    }
    failed[d] = true;
    return lost();
  }

  int swap(int d) {
    disk(d);
    failed[d] = false;
    swaps[d]++;
    Arrays.fill(value[d], 0);
    Arrays.fill(mark[d], NONE);
    rebuildAt = 0;
    return lost();
  }

  int flip(int d, int t, int bits) {
    disk(d);
    stripe(t);
    if (bits < 1 || bits > 255) {
      throw new IllegalArgumentException();
    }
    if (failed[d]) {
      throw new IllegalStateException();
    }
    return value[d][t] ^= bits;
  }

  void round(int stripes) {
    if (stripes < 1 || stripes > 8) {
      throw new IllegalArgumentException();
    }
    if (n == 0 || !on) {
      throw new IllegalStateException();
    }
  }

  int rebuild(int stripes) {
    round(stripes);
    int count = 0;
    for (int i = 0; i < stripes; i++) {
      count += mend(rebuildAt);
      rebuildAt++;
      if (rebuildAt == s) {
        rebuildAt = 0;
      }
    }
    return count;
  }

  int patrol(int stripes) {
    round(stripes);
    int count = 0;
    for (int i = 0; i < stripes; i++) {
      count += mend(patrolAt);
      patrolAt++;
      if (patrolAt == s) {
        patrolAt = 0;
      }
    }
    return count;
  }

  int giveUp(int t) {
    stripe(t);
    List<Integer> all = bads(t);
    if (!on || all.size() < 2) {
      throw new IllegalStateException();
    }
    int set = 0;
    for (int d : all) {
      if (d != t % n) {
        set += 1 << d;
        lay(d, t, 0);
        written[d][t] = 0;
      }
    }
    int x = 0;
    for (int d = 0; d < n; d++) {
      if (d != t % n && !failed[d]) {
        x ^= value[d][t];
      }
    }
    lay(t % n, t, x);
    return set;
  }

  int kind(int d, int peak, int spin, int idle) {
    if (d < 0 || d > 4) {
      throw new IndexOutOfBoundsException();
    }
    if (peak < 1 || peak > 30 || spin < 1 || spin > 9 || idle < 0 || idle > 9) {
      throw new IllegalArgumentException();
    }
    int before = kinds[d][0];
    kinds[d] = new int[] {peak, spin, idle};
    return before;
  }

  int fuse(int newLimit, int newPatience) {
    if (newLimit < 1 || newLimit > 90 || newPatience < 0 || newPatience > 9) {
      throw new IllegalArgumentException();
    }
    int before = limit;
    limit = newLimit;
    patience = newPatience;
    return before;
  }

  boolean off() {
    if (n == 0) {
      throw new IllegalStateException();
    }
    boolean was = on;
    offs += on ? 1 : 0;
    on = false;
    return was;
  }

  void comeOn() {
    on = true;
    if (note != null) {
      int[] where = block(note[0]);
      lay(where[0], where[1], note[1]);
      lay(where[1] % n, where[1], note[2]);
      note = null;
    }
  }

  int power() {
    if (n == 0 || on || plan() == null) {
      throw new IllegalStateException();
    }
    comeOn();
    return end(plan()[1]);
  }

  int boot(int gap) {
    if (gap < 0 || gap > 20) {
      throw new IllegalArgumentException();
    }
    if (n == 0 || on) {
      throw new IllegalStateException();
    }
    int last = wouldBoot(gap);
    if (last != NONE) {
      comeOn();
    }
    return last;
  }

  int wouldBoot(int gap) {
    if (gap < 0 || gap > 20) {
      throw new IllegalArgumentException();
    }
    if (n == 0) {
      throw new IllegalStateException();
    }
    int[] starts = new int[n];
    for (int d = 0; d < n; d++) {
      starts[d] = d * gap;
    }
    return trips(starts) ? NONE : (n - 1) * gap;
  }

  int wouldLose(int first, int second) {
    disk(first);
    disk(second);
    if (first == second) {
      throw new IllegalArgumentException();
    }
    boolean[] before = failed.clone();
    failed[first] = true;
    failed[second] = true;
    int count = lost();
    failed = before;
    return count;
  }

  /** Starts by disk; NONE: it has not started. */
  int draws(int[] starts, int tenth) {
    int sum = 0;
    for (int d = 0; d < n; d++) {
      if (starts[d] != NONE && tenth >= starts[d]) {
        sum += tenth - starts[d] < kinds[d][1] ? kinds[d][0] : kinds[d][2];
      }
    }
    return sum;
  }

  boolean trips(int[] starts) {
    int run = 0;
    for (int tenth = 0; tenth < FOREVER; tenth++) {
      run = draws(starts, tenth) > limit ? run + 1 : 0;
      if (run > patience) {
        return true;
      }
    }
    return false;
  }

  int end(int[] starts) {
    int end = 0;
    for (int d = 0; d < n; d++) {
      end = Math.max(end, starts[d] + kinds[d][1]);
    }
    return end;
  }

  private final Map<String, int[][]> plans = new HashMap<>();

  /** {the order, the starts by disk}, or null. */
  int[][] plan() {
    if (n == 0) {
      return null;
    }
    String key = n + " " + limit + " " + patience + Arrays.deepToString(kinds);
    if (!plans.containsKey(key)) {
      int[][][] best = new int[1][][];
      orders(new ArrayList<>(), best);
      plans.put(key, best[0]);
    }
    return plans.get(key);
  }

  private void orders(List<Integer> order, int[][][] best) {
    if (order.size() == n) {
      int[] starts = startsBy(order);
      if (starts != null && (best[0] == null || end(starts) < end(best[0][1]))) {
        best[0] = new int[][] {order.stream().mapToInt(i -> i).toArray(), starts};
      }
      return;
    }
    for (int d = 0; d < n; d++) {
      if (!order.contains(d)) {
        List<Integer> longer = new ArrayList<>(order);
        longer.add(d);
        orders(longer, best);
      }
    }
  }

  private int[] startsBy(List<Integer> order) {
    int[] starts = new int[n];
    Arrays.fill(starts, NONE);
    int tenth = 0;
    for (int d : order) {
      starts[d] = tenth;
      while (tenth <= 60 && trips(starts)) {
        tenth++;
        starts[d] = tenth;
      }
      if (tenth > 60) {
        return null;
      }
    }
    return starts;
  }

  int cell(int d, int t, int what) {
    disk(d);
    stripe(t);
    switch (what) {
      case 0: return value[d][t];
      case 1: return mark[d][t];
      case 2: return bad(d, t) ? 1 : 0;
      case 3:
        for (int b = 0; b < blocks().size(); b++) {
          if (blocks().get(b)[0] == d && blocks().get(b)[1] == t) {
            return b;
          }
        }
        return NONE;
      case 4: return should(d, t);
      default: throw new IllegalArgumentException();
    }
  }

  int ofDisk(int d, int what) {
    disk(d);
    int[][] plan = plan();
    switch (what) {
      case 0: return failed[d] ? 1 : 0;
      case 1:
        int count = 0;
        for (int t = 0; t < s; t++) {
          count += bad(d, t) ? 1 : 0;
        }
        return count;
      case 2: return swaps[d];
      case 3: return kinds[d][0];
      case 4: return kinds[d][1];
      case 5: return kinds[d][2];
      case 6: return plan == null ? NONE : plan[1][d];
      case 7:
        if (plan == null) {
          return NONE;
        }
        int place = 0;
        while (plan[0][place] != d) {
          place++;
        }
        return place;
      default: throw new IllegalArgumentException();
    }
  }

  int ofBlock(int b, int what) {
    int[] where = block(b);
    switch (what) {
      case 0: return where[0];
      case 1: return where[1];
      case 2: return lostAt(where) ? 1 : 0;
      case 3: return should(where[0], where[1]);
      default: throw new IllegalArgumentException();
    }
  }

  int note(int what) {
    if (what < 0 || what > 2) {
      throw new IllegalArgumentException();
    }
    return note == null ? NONE : note[what];
  }

  int house(int what) {
    int[] byBad = new int[7];
    int allBad = 0;
    for (int t = 0; t < s; t++) {
      byBad[bads(t).size()]++;
      allBad += bads(t).size();
    }
    int failures = 0;
    for (int d = 0; d < n; d++) {
      failures += failed[d] ? 1 : 0;
    }
    switch (what) {
      case 0: return n;
      case 1: return s;
      case 2: return blocks().size();
      case 3: return on ? 1 : 0;
      case 4: return failures;
      case 5: return allBad;
      case 6: return byBad[1];
      case 7: return byBad[2] + byBad[3] + byBad[4] + byBad[5];
      case 8: return lost();
      case 9: return writes;
      case 10: return reads;
      case 11: return mended;
      case 12: return offs;
      case 13: return plan() == null ? NONE : end(plan()[1]);
      case 14: return rebuildAt;
      case 15: return patrolAt;
      case 16: return refused;
      default: throw new IllegalArgumentException();
    }
  }

  String row(int t) {
    stripe(t);
    String text = "";
    for (int d = 0; d < n; d++) {
      text += failed[d] ? "x" : bad(d, t) ? "?" : d == t % n ? "+" : ".";
    }
    return text;
  }

  int draw(int tenth) {
    if (tenth < 0 || tenth > 999) {
      throw new IllegalArgumentException();
    }
    return plan() == null ? NONE : draws(plan()[1], tenth);
  }

  boolean isSound() {
    int but = note == null ? NONE : block(note[0])[1];
    for (int t = 0; t < s; t++) {
      int x = 0;
      for (int d = 0; d < n; d++) {
        x ^= value[d][t];
      }
      if (t != but && bads(t).isEmpty() && x != 0) {
        return false;
      }
    }
    for (int[] where : blocks()) {
      if (where[1] != but && !lostAt(where) && should(where[0], where[1]) != written[where[0]][where[1]]) {
        return false;
      }
    }
    return plan() == null || !trips(plan()[1]);
  }

  int knock() {
    return ++refused;
  }

  long digest() {
    List<Integer> all = new ArrayList<>();
    for (int w = 0; w <= 16; w++) {
      all.add(house(w));
    }
    for (int d = 0; d < n; d++) {
      for (int w = 0; w <= 7; w++) {
        all.add(ofDisk(d, w));
      }
    }
    for (int t = 0; t < s; t++) {
      for (int d = 0; d < n; d++) {
        for (int w = 0; w <= 4; w++) {
          all.add(cell(d, t, w));
        }
      }
    }
    for (int b = 0; b < blocks().size(); b++) {
      for (int w = 0; w <= 3; w++) {
        all.add(ofBlock(b, w));
      }
    }
    for (int w = 0; w <= 2; w++) {
      all.add(note(w));
    }
    for (int w = 0; w <= 9; w++) {
      all.add(draw(w));
    }
    all.add(isSound() ? 1 : 0);
    long d = 6661;
    for (int v : all) {
      d = d * 31 + v;
    }
    return d;
  }
}
