/** Counts and prints the answers that are not as due. */
final class Check {
  /** A call of the program whose answer counts; a boolean is 1 or 0, a call without an answer 0. */
  interface Call {
    long answer();
  }

  static final String INDEX = "IndexOutOfBoundsException";
  static final String ARGUMENT = "IllegalArgumentException";
  static final String STATE = "IllegalStateException";

  private int checks = 0;
  private int wrong = 0;

  void due(String call, long want, Call made) {
    note(call, String.valueOf(want), told(made));
  }

  void refused(String call, String exception, Call made) {
    note(call, exception, told(made));
  }

  void same(String what, String want, String got) {
    note(what, want, got);
  }

  int wrong() {
    return wrong;
  }

  /** Ends the test's run, with exit code 1 if an answer was wrong. */
  void close(String name) {
    System.out.println(name + ": " + checks + " answers, " + wrong + " not as due");
    if (wrong != 0 || checks == 0) {
      System.exit(1);
    }
  }

  /**
   * The answer, or the exception's name: its very class, as the document names it. The programs
   * throw by themselves alone, so one that comes out of the library bears that mark.
   */
  static String told(Call made) {
    try {
      return String.valueOf(made.answer());
    } catch (RuntimeException e) {
      StackTraceElement[] trace = e.getStackTrace();
      boolean isOwn = trace.length > 0 && trace[0].getClassName().contains("Haul");
      return e.getClass().getSimpleName() + (isOwn ? "" : " of the library");
    }
  }

  static long number(boolean is) {
    return is ? 1 : 0;
  }

  private void note(String call, String want, String got) {
    checks++;
    if (!want.equals(got)) {
      wrong++;
      System.out.println(call + " answered " + got + ", due is " + want);
    }
  }
}
