/**
 * What the project's tests share: they count what is not as due, and end with exit code 1 if anything was. They look
 * at one object oftener than the 512 calls that the document promises, as the program counts no calls.
 */
final class Checks {
  interface Call {
    Object answer();
  }

  private static int asked = 0;
  private static int wrong = 0;

  private Checks() {
  }

  static void same(String what, Object got, Object due) {
    asked++;
    if (!due.equals(got)) {
      wrong++;
      System.out.println(what + " answered " + got + ", due is " + due);
    }
  }

  /** The exact class is asked for, and that the call changes nothing of what can be seen. */
  static void refused(String what, GrainElevator x, Class<? extends RuntimeException> kind, Call call) {
    String before = stateOf(x);
    same(what, outcomeOf(call), "throws." + kind.getSimpleName());
    same(what + " afterwards", stateOf(x), before);
  }

  static String outcomeOf(Call call) {
    try {
      return String.valueOf(call.answer());
    } catch (RuntimeException e) {
      return thrown(e);
    }
  }

  /** The machine and its library must throw nothing: an exception counts only if the class itself threw it. */
  static String thrown(Throwable e) {
    StackTraceElement[] trace = e.getStackTrace();
    boolean isOwn = trace.length > 0 && trace[0].getClassName().equals("GrainElevator");
    boolean isOfMachine = e instanceof ArithmeticException && "/ by zero".equals(e.getMessage());
    return (isOwn && !isOfMachine ? "throws." : "throws, but not by the class itself: ") + e.getClass().getSimpleName();
  }

  /** All that the object tells without being changed by it. */
  static String stateOf(GrainElevator x) {
    StringBuilder state = new StringBuilder();
    for (int bin = 0; bin < x.binCount(); bin++) {
      state.append("bin ").append(x.capacityOf(bin)).append(' ').append(x.bushelsIn(bin)).append(':');
      for (int i = 0; i < x.layersIn(bin); i++) {
        state.append(' ').append(x.layerBushels(bin, i)).append('@').append(x.layerMoisture(bin, i));
        state.append('f').append(x.layerForeign(bin, i)).append('g').append(x.layerGrade(bin, i));
      }
      state.append('\n');
    }
    state.append("rules");
    for (int moisture = 80; moisture <= 300; moisture += 5) {
      for (int foreign = 0; foreign <= 100; foreign += 10) {
        state.append(x.gradeFor(moisture, foreign));
      }
    }
    state.append("\nprices");
    for (int grade = 1; grade <= 4; grade++) {
      state.append(' ').append(x.priceOf(grade));
    }
    state.append("\nhedge ").append(x.hedged()).append(' ').append(x.owned()).append(' ').append(x.gain());
    for (int i = 0; i < x.tradeCount(); i++) {
      state.append(' ').append(x.tradeAt(i));
    }
    state.append("\nmoney ").append(x.cash()).append(' ').append(x.worth()).append("\nevents ");
    for (int i = 0; i < x.eventCount(); i++) {
      state.append(x.eventKind(i));
    }
    return state.append("\nline ").append(lineOf(x)).append('\n').toString();
  }

  static String lineOf(GrainElevator x) {
    StringBuilder line = new StringBuilder();
    for (int i = 0; i < 2000; i++) {
      try {
        line.append(x.lineAt(i));
      } catch (IndexOutOfBoundsException e) {
        return line.toString();
      }
    }
    return line.append("..").toString();
  }

  static String written(GrainElevator x, int bin) {
    int length = x.writeBin(bin);
    String line = lineOf(x);
    return length == line.length() ? line : line + " of length " + length;
  }

  static void finish(String name) {
    System.out.println(name + ": " + asked + " asked, " + wrong + " not as due");
    if (wrong != 0 || asked == 0) {
      System.exit(1);
    }
  }
}
