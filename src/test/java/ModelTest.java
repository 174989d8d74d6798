import java.lang.reflect.InvocationTargetException;
import java.lang.reflect.Method;
import java.lang.reflect.Modifier;
import java.util.Arrays;
import java.util.Comparator;
import java.util.HashMap;
import java.util.Map;
import java.util.Random;

/** Long runs of calls, each answered by the program and by the model; the seeds are fixed, so the runs are too. */
public final class ModelTest {
  private static final int RUNS = 200;
  private static final int CALLS = 512;
  // Comparing needs calls too: the fewer are left, the more objects must be brought to the same state for it.
  private static final int CALLS_COMPARED = 480;
  private static final int[] MOISTURES = {80, 81, 100, 130, 140, 141, 155, 156, 175, 176, 200, 299, 300};
  private static final int[] FOREIGNS = {0, 5, 20, 21, 30, 31, 40, 41, 100};
  private static final int[] WRONG = {-1, 0, 79, 301, 101, 501, 2001, 5001, Integer.MAX_VALUE, Integer.MIN_VALUE};
  private static final Map<String, Integer> answered = new HashMap<>();

  private final Method[] calls = callsOf();
  private final Random chance;
  private final Elevator program = new Elevator();
  private final Model model = new Model();
  // Few runs are rich in events, so that others still ask for a long time before the eightieth.
  private final int eventsInTen;
  private final int greatestLoad;

  private ModelTest(int seed) {
    chance = new Random(seed);
    eventsInTen = 2 + seed % 5;
    greatestLoad = seed % 3 == 0 ? 2000 : seed % 3 == 1 ? 4 : 60;
  }

  public static void main(String[] args) throws Exception {
    for (int seed = 0; seed < RUNS; seed++) {
      new ModelTest(seed).run(seed);
    }
    for (Method call : callsOf()) {
      Checks.same(call.getName() + " has answered", answered.containsKey(call.getName()), true);
    }
    Checks.finish("ModelTest");
  }

  private static Method[] callsOf() {
    return Arrays.stream(Model.class.getDeclaredMethods()).filter(m -> Modifier.isPublic(m.getModifiers()))
        .sorted(Comparator.comparing(Method::getName)).toArray(Method[]::new);
  }

  private void run(int seed) throws Exception {
    for (int i = 0; i < CALLS; i++) {
      Method call = i < 3 ? named("addBin") : chosen();
      Object[] arguments = argumentsOf(call);
      String what = "seed " + seed + ", call " + i + ": " + call.getName() + Arrays.toString(arguments);
      String due = outcome(model, call, arguments);
      Checks.same(what, outcome(program, of(call), arguments), due);
      if (!due.startsWith("throws.")) {
        answered.merge(call.getName(), 1, Integer::sum);
      }
      if (i % 16 == 0 && i < CALLS_COMPARED) {
        compareAll(what);
      }
    }
  }

  private Method of(Method call) throws NoSuchMethodException {
    return Elevator.class.getMethod(call.getName(), call.getParameterTypes());
  }

  private Method named(String name) {
    return Arrays.stream(calls).filter(m -> m.getName().equals(name)).findFirst().orElseThrow();
  }

  private Method chosen() {
    if (chance.nextInt(10) < eventsInTen) {
      String[] events = {"load", "load", "load", "sell", "transfer", "transfer", "dry", "sellBlend"};
      return named(events[chance.nextInt(events.length)]);
    }
    return calls[chance.nextInt(calls.length)];
  }

  private static String outcome(Object object, Method call, Object[] arguments) throws IllegalAccessException {
    try {
      return String.valueOf(call.invoke(object, arguments));
    } catch (InvocationTargetException e) {
      boolean isModel = object instanceof Model;
      return isModel ? "throws." + e.getCause().getClass().getSimpleName() : Checks.thrown(e.getCause());
    }
  }

  private Object[] argumentsOf(Method call) {
    String name = call.getName();
    Object[] arguments = new Object[call.getParameterCount()];
    for (int i = 0; i < arguments.length; i++) {
      boolean isWrong = chance.nextInt(40) == 0;
      arguments[i] = isWrong ? Integer.valueOf(WRONG[chance.nextInt(WRONG.length)]) : argument(name, i);
    }
    if (name.equals("addBin")) {
      arguments[1] = chance.nextBoolean();
    }
    return arguments;
  }

  private Integer argument(String name, int i) {
    return switch (name) {
      case "addBin" -> chance.nextInt(4) == 0 ? 1 + chance.nextInt(20) : 1 + chance.nextInt(5000);
      case "setRule" -> new int[] {chance.nextInt(4), 1 + chance.nextInt(3), moisture(), foreign()}[i];
      case "setSeason" -> chance.nextInt(4);
      case "gradeFor" -> i == 0 ? moisture() : foreign();
      case "setPrice" -> i == 0 ? 1 + chance.nextInt(4) : chance.nextInt(5) * 500;
      case "priceOf" -> 1 + chance.nextInt(4);
      case "load" -> new int[] {bin(), 1 + chance.nextInt(greatestLoad), moisture(), foreign()}[i];
      case "sell" -> i == 0 ? bin() : outflow();
      case "transfer" -> i < 2 ? bin() : outflow();
      case "dry", "dryingCost" -> i == 0 ? bin() : moisture();
      case "wetShare" -> moisture();
      case "blendCost", "blendCostByTrying", "blendShare", "sellBlend" ->
          new int[] {bin(), bin(), 1 + chance.nextInt(Math.min(500, greatestLoad * 2)), moisture()}[i];
      case "setFutures" -> chance.nextInt(2001);
      case "tradeAt", "eventKind" -> chance.nextInt(82);
      case "lineAt" -> chance.nextInt(40);
      default -> i == 0 ? bin() : chance.nextInt(6);
    };
  }

  private int bin() {
    return chance.nextInt(Math.max(1, model.binCount()) + (chance.nextInt(20) == 0 ? 1 : 0));
  }

  private int outflow() {
    int all = model.binCount() == 0 ? 0 : model.bushelsIn(chance.nextInt(model.binCount()));
    return chance.nextInt(4) == 0 ? all : 1 + chance.nextInt(greatestLoad * 2);
  }

  private int moisture() {
    return chance.nextInt(3) == 0 ? 80 + chance.nextInt(221) : MOISTURES[chance.nextInt(MOISTURES.length)];
  }

  private int foreign() {
    return chance.nextInt(3) == 0 ? chance.nextInt(101) : FOREIGNS[chance.nextInt(FOREIGNS.length)];
  }

  /** Everything that both tell, layer by layer and trade by trade. */
  private void compareAll(String what) throws Exception {
    for (String name : "binCount hedged owned tradeCount gain cash worth eventCount isConsistent".split(" ")) {
      compare(what, name);
    }
    for (int i = 0; i < 81; i++) {
      compare(what, "tradeAt", i);
      compare(what, "eventKind", i);
      compare(what, "lineAt", i);
    }
    for (int bin = 0; bin < 6; bin++) {
      for (String name : "capacityOf bushelsIn layersIn meanMoisture".split(" ")) {
        compare(what, name, bin);
      }
      int layers = bin < model.binCount() ? model.layersIn(bin) : 0;
      for (int i = 0; i <= layers; i++) {
        for (String name : "layerBushels layerAnew layerMoisture layerForeign layerGrade".split(" ")) {
          compare(what, name, bin, i);
        }
      }
    }
  }

  private void compare(String what, String name, Object... arguments) throws Exception {
    Method call = named(name);
    String due = outcome(model, call, arguments);
    String got = outcome(program.seen(), of(call), arguments);
    Checks.same(what + ", then " + name + Arrays.toString(arguments), got, due);
  }
}
