/** What the tests share: an answer or an exception is due, and a test ends with its count of wrong ones. */
final class Expect {
  interface Call {
    Object answer();
  }

  /** One fault can make thousands of answers wrong; the first ones tell where to look. */
  private static final int MOST_TOLD = 20;

  private static int wrong = 0;
  private static int asked = 0;

  private Expect() {
  }

  static void due(String call, Object want, Call made) {
    asked++;
    Object got = outcome(made);
    if (!want.equals(got)) {
      wrong++;
      if (wrong <= MOST_TOLD) {
        System.out.println(call + " answered " + got + ", due is " + want);
      }
    }
  }

  static void dueIndex(String call, Call made) {
    due(call, IndexOutOfBoundsException.class, made);
  }

  static void dueArgument(String call, Call made) {
    due(call, IllegalArgumentException.class, made);
  }

  static void dueState(String call, Call made) {
    due(call, IllegalStateException.class, made);
  }

  /** The answer, or the class of what was thrown: exactly this class, none below it. */
  static Object outcome(Call made) {
    try {
      return made.answer();
    } catch (RuntimeException thrown) {
      return isThrownByStatement(thrown) ? thrown.getClass() : "what the machine threw: " + thrown;
    }
  }

  /** A list of the library throws the very class that the document names; then its own frame is on top. */
  private static boolean isThrownByStatement(RuntimeException thrown) {
    StackTraceElement[] frames = thrown.getStackTrace();
    return frames.length > 0 && !frames[0].getClassName().startsWith("java.")
        && !frames[0].getClassName().startsWith("jdk.");
  }

  static void end(String test) {
    System.out.println(test + ": " + asked + " answers asked, " + wrong + " wrong");
    if (wrong > 0) {
      System.exit(1);
    }
  }
}
