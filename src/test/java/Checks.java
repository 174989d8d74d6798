/** What the project's tests share: they count what is not as due, and end with exit code 1 if anything was. */
final class Checks {
  interface Call {
    Object answer();
  }

  private static int asked = 0;
  private static int wrong = 0;

  private Checks() {
  }

  static void same(String what, Object got, Object due) {
    asked++;
    if (!due.equals(got)) {
      wrong++;
      System.out.println(what + " answered " + got + ", due is " + due);
    }
  }

  /** The exact class is asked for, and that the call changes nothing of what can be seen. */
  static void refused(String what, Elevator x, Class<? extends RuntimeException> kind, Call call) {
    String before = stateOf(x);
    same(what, outcomeOf(call), "throws." + kind.getSimpleName());
    same(what + " afterwards", stateOf(x), before);
  }

  static String outcomeOf(Call call) {
    try {
      return String.valueOf(call.answer());
    } catch (RuntimeException e) {
      return thrown(e);
    }
  }

  /** The machine and its library must throw nothing: an exception counts only if the class itself threw it. */
  static String thrown(Throwable e) {
    StackTraceElement[] trace = e.getStackTrace();
    boolean isOwn = trace.length > 0 && trace[0].getClassName().startsWith("GrainElevator");
    boolean isOfMachine = e instanceof ArithmeticException && "/ by zero".equals(e.getMessage());
    return (isOwn && !isOfMachine ? "throws." : "throws, but not by the class itself: ") + e.getClass().getSimpleName();
  }

  /** All that the object tells, and what it would tell of rules, season and futures if these were changed. */
  static String stateOf(Elevator x) {
    StringBuilder state = new StringBuilder();
    for (int bin = 0; bin < x.seen().binCount(); bin++) {
      state.append("bin ").append(x.seen().capacityOf(bin)).append(' ').append(x.seen().bushelsIn(bin)).append(':');
      for (int i = 0; i < x.seen().layersIn(bin); i++) {
        state.append(' ').append(layerOf(x, bin, i));
      }
      state.append('\n');
    }
    state.append("season ").append(x.again().setSeason(0)).append(", rules").append(rulesOf(x));
    state.append("\nprices");
    for (int grade = 1; grade <= 4; grade++) {
      state.append(' ').append(x.seen().priceOf(grade));
    }
    state.append("\nhedge ").append(x.seen().hedged()).append(' ').append(x.seen().owned());
    state.append(' ').append(x.seen().gain()).append(' ').append(x.again().setFutures(0));
    for (int i = 0; i < x.seen().tradeCount(); i++) {
      state.append(' ').append(x.seen().tradeAt(i));
    }
    state.append("\nmoney ").append(x.seen().cash()).append(' ').append(x.seen().worth()).append("\nevents ");
    for (int i = 0; i < x.seen().eventCount(); i++) {
      state.append(x.seen().eventKind(i));
    }
    state.append("\nconsistent ").append(x.seen().isConsistent());
    return state.append("\nline ").append(lineOf(x)).append('\n').toString();
  }

  private static String layerOf(Elevator x, int bin, int i) {
    return x.seen().layerBushels(bin, i) + "=" + x.seen().layerAnew(bin, i) + "@" + x.seen().layerMoisture(bin, i)
        + "f" + x.seen().layerForeign(bin, i) + "g" + x.seen().layerGrade(bin, i);
  }

  private static String rulesOf(Elevator x) {
    StringBuilder rules = new StringBuilder();
    for (int season = 0; season < 4; season++) {
      for (int grade = 1; grade <= 3; grade++) {
        Elevator asked = x.again();
        int foreign = greatestForeign(asked, season, grade);
        rules.append(' ').append(asked.setRule(season, grade, 80, 0)).append('f').append(foreign);
      }
    }
    return rules.toString();
  }

  /** No call tells it: it is found by what the rule takes when the others of its season take nothing. */
  private static int greatestForeign(Elevator asked, int season, int grade) {
    asked.setSeason(season);
    for (int other = 1; other <= 3; other++) {
      if (other != grade) {
        asked.setRule(season, other, 80, 0);
      }
    }
    int foreign = 0;
    while (foreign < 100 && asked.gradeFor(80, foreign + 1) == grade) {
      foreign++;
    }
    return foreign;
  }

  static String lineOf(Elevator x) {
    StringBuilder line = new StringBuilder();
    for (int i = 0; i < 2000; i++) {
      try {
        line.append(x.seen().lineAt(i));
      } catch (IndexOutOfBoundsException e) {
        return line.toString();
      }
    }
    return line.append("..").toString();
  }

  static String written(Elevator x, int bin) {
    int length = x.writeBin(bin);
    String line = lineOf(x);
    return length == line.length() ? line : line + " of length " + length;
  }

  static void finish(String name) {
    System.out.println(name + ": " + asked + " asked, " + wrong + " not as due");
    if (wrong != 0 || asked == 0) {
      System.exit(1);
    }
  }
}
