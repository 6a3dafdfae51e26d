/** Compares answers with those that are due, and tells the ones that differ. */
final class Check {
  private static int compared = 0;
  private static int wrong = 0;

  private Check() {
  }

  /** A call of the program. */
  interface Call {
    Object answer();
  }

  /** The answer of a call, as a text: "throws.X" for an exception. */
  static String answerOf(Call call) {
    try {
      return String.valueOf(call.answer());
    } catch (RuntimeException e) {
      return "throws." + e.getClass().getSimpleName();
    }
  }

  static void same(String what, Object want, Call call) {
    compared++;
    String got = answerOf(call);
    if (!got.equals(String.valueOf(want))) {
      wrong++;
      if (wrong <= 40) {
        System.out.println(what + " answered " + got + ", due is " + want);
      }
    }
  }

  static void bounds(String what, Call call) {
    same(what, "throws.IndexOutOfBoundsException", call);
  }

  static void argument(String what, Call call) {
    same(what, "throws.IllegalArgumentException", call);
  }

  static void state(String what, Call call) {
    same(what, "throws.IllegalStateException", call);
  }

  /** How many answers have been compared so far. */
  static int compared() {
    return compared;
  }

  static boolean isClean() {
    return wrong == 0;
  }

  static void end(String name) {
    System.out.println(name + ": " + compared + " answers compared, " + wrong + " wrong");
    if (wrong > 0 || compared == 0) {
      System.exit(1);
    }
  }
}
