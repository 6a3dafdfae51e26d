import java.util.LinkedHashSet;
import java.util.Set;

/** What the tests of the document's sentences share: each begins with says() and a new object. */
abstract class Sentences {
  static final int MIN = Integer.MIN_VALUE;
  static final int MAX = Integer.MAX_VALUE;
  /** The promise that stands for the part "Description" (and for what stands ahead of it). */
  static final int DESCRIPTION = 0;

  private static final Set<String> TOLD = new LinkedHashSet<>();

  Staggershelf x;
  private String sentence = "";
  private int comparedAhead = 0;

  abstract void tell();

  /** All sentences that have been told so far, each as keyOf() writes it. */
  static Set<String> told() {
    return TOLD;
  }

  static String keyOf(int promise, String sentence) {
    return promise + ": " + sentence;
  }

  final void tellAll() {
    tell();
    endSentence();
  }

  final void says(int promise, String words) {
    endSentence();
    sentence = keyOf(promise, words);
    comparedAhead = Check.compared();
    Check.same("told once: " + sentence, true, () -> TOLD.add(sentence));
    comparedAhead++;
    fresh();
  }

  /** A sentence whose test compares nothing has no test. */
  private void endSentence() {
    if (!sentence.isEmpty()) {
      boolean isTested = Check.compared() > comparedAhead;
      Check.same("has a test: " + sentence, true, () -> isTested);
    }
  }

  final void fresh() {
    x = new Staggershelf();
  }

  final void due(Object want, Check.Call got) {
    Check.same(label(), want, got);
  }

  final void bounds(Check.Call... calls) {
    refused("IndexOutOfBoundsException", calls);
  }

  final void argument(Check.Call... calls) {
    refused("IllegalArgumentException", calls);
  }

  final void state(Check.Call... calls) {
    refused("IllegalStateException", calls);
  }

  private void refused(String exception, Check.Call... calls) {
    for (int i = 0; i < calls.length; i++) {
      long before = x.digest();
      Check.same(label() + " call " + i, "throws." + exception, calls[i]);
      Check.same(label() + " digest() behind call " + i, before, x::digest);
    }
  }

  /** house() of from and on. */
  final void houses(int from, int... want) {
    for (int i = 0; i < want.length; i++) {
      int what = from + i;
      Check.same(label() + " house(" + what + ")", want[i], () -> x.house(what));
    }
  }

  /** ofDisk() of the disks 0 and on. */
  final void disks(int what, int... want) {
    for (int d = 0; d < want.length; d++) {
      int disk = d;
      Check.same(label() + " ofDisk(" + d + ", " + what + ")", want[d], () -> x.ofDisk(disk, what));
    }
  }

  /** ofBlock() of the blocks 0 and on. */
  final void blocks(int what, int... want) {
    for (int b = 0; b < want.length; b++) {
      int block = b;
      Check.same(label() + " ofBlock(" + b + ", " + what + ")", want[b], () -> x.ofBlock(block, what));
    }
  }

  /** cell() of a stripe, on the disks 0 and on. */
  final void cells(int stripe, int what, int... want) {
    for (int d = 0; d < want.length; d++) {
      int disk = d;
      Check.same(label() + " cell(" + d + ", " + stripe + ", " + what + ")", want[d],
          () -> x.cell(disk, stripe, what));
    }
  }

  /** The rows of the stripes 0 and on. */
  final void rows(String... want) {
    for (int t = 0; t < want.length; t++) {
      int stripe = t;
      Check.same(label() + " row(" + t + ")", want[t], () -> x.row(stripe));
    }
  }

  /** The draw at the tenths from and on. */
  final void draws(int from, int... want) {
    for (int i = 0; i < want.length; i++) {
      int tenth = from + i;
      Check.same(label() + " draw(" + tenth + ")", want[i], () -> x.draw(tenth));
    }
  }

  final void notes(int block, int value, int sum) {
    Check.same(label() + " note(0)", block, () -> x.note(0));
    Check.same(label() + " note(1)", value, () -> x.note(1));
    Check.same(label() + " note(2)", sum, () -> x.note(2));
  }

  final void sound() {
    Check.same(label() + " isSound()", true, x::isSound);
  }

  /** Writes the values into the blocks 0 and on. */
  final void fill(int... values) {
    for (int b = 0; b < values.length; b++) {
      x.write(b, values[b], 4);
    }
  }

  /** The sentence, and the line of its test that compares now. */
  private String label() {
    StackWalker.StackFrame frame = StackWalker.getInstance().walk(frames -> frames
        .filter(f -> !f.getClassName().equals("Sentences")).findFirst().orElseThrow());
    return sentence + " [" + frame.getFileName() + ":" + frame.getLineNumber() + "]";
  }
}
