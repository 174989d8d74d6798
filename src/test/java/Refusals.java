import java.util.NoSuchElementException;

/** Each exception in each of its cases: it changes nothing, and beside the case the call is answered. */
final class Refusals {
  private static final String INDEX = "Throws `IndexOutOfBoundsException` ";
  private static final String ARGUMENT = "Throws `IllegalArgumentException` ";
  private static final String STATE = "Throws `IllegalStateException` ";
  private static final String NONE = "Throws `NoSuchElementException` ";
  private static final String ARITHMETIC = "Throws `ArithmeticException` ";
  private static final String NO_BIN = INDEX + "if there is no such bin";
  private static final String NEITHER_BIN = NO_BIN + ", for either";
  private static final String AN_ARGUMENT = ARGUMENT + "if an argument is out of range";
  private static final String THE_MOISTURE = ARGUMENT + "if the moisture is out of range";
  private static final String BLEND_ARGUMENT =
      ARGUMENT + "if both bins are the same, or another argument is out of range";
  private static final String NO_BLEND = NONE + "if no blend is good";
  private static final int[] OUTSIDE = {-1, 3, 5, 6, 65536, Integer.MIN_VALUE, Integer.MAX_VALUE};

  private static String what = "";
  private static Class<? extends RuntimeException> kind = RuntimeException.class;

  private interface Attempt {
    Object of(Elevator x, int value);
  }

  private interface Blend {
    Object of(Elevator x, int one, int other, int bushels, int moisture);
  }

  private Refusals() {
  }

  static void check() {
    noSuchBin();
    noSuchBinForEither();
    noSuchLayer();
    noSuchTradeEventOrCharacter();
    sixBins();
    argumentsOfBinsRulesAndPrices();
    argumentsOfGrain();
    notEnoughRoom();
    notSoMuch();
    noGreaterMoisture();
    eightyEvents();
    emptyBins();
    blends();
    changesNothing();
    firstIsThrown();
  }

  private static void sentence(int promise, String words) {
    what = Document.sentence(promise, words);
    kind = words.startsWith(INDEX) ? IndexOutOfBoundsException.class
        : words.startsWith(ARGUMENT) ? IllegalArgumentException.class
        : words.startsWith(STATE) ? IllegalStateException.class
        : words.startsWith(NONE) ? NoSuchElementException.class : ArithmeticException.class;
  }

  private static void refused(Elevator x, Checks.Call... calls) {
    for (int i = 0; i < calls.length; i++) {
      Checks.refused(what + ", call " + i, x, kind, calls[i]);
    }
  }

  private static void answered(Object got, Object due) {
    Checks.same(what + ", beside the case", got, due);
  }

  /** Three bins with 10 bushels of moisture 150 in one layer, and as much room. */
  private static Elevator three() {
    Elevator x = new Elevator();
    for (int bin = 0; bin < 3; bin++) {
      x.addBin(20, bin % 2 == 0);
      x.load(bin, 10, 150, 10);
    }
    return x;
  }

  private static Elevator two(int capacity, int otherCapacity) {
    Elevator x = new Elevator();
    x.addBin(capacity, true);
    x.addBin(otherCapacity, false);
    return x;
  }

  /** So many events have been, and each of two bins has 5 bushels of moisture 150 and room. */
  private static Elevator worn(int events) {
    Elevator x = two(1000, 1000);
    x.load(0, 5, 150, 10);
    x.load(1, 5, 150, 10);
    for (int i = 2; i + 1 < events; i += 2) {
      x.load(i % 4 / 2, 1, 150, 10);
      x.sell(i % 4 / 2, 1);
    }
    if (events % 2 == 1) {
      x.load(0, 1, 150, 10);
    }
    return x;
  }

  private static void noBin(int promise, Attempt attempt) {
    sentence(promise, promise < 17 || promise > 21 ? NO_BIN : NO_BIN + " or layer");
    noBinFor(attempt);
  }

  private static void noBinFor(Attempt attempt) {
    Elevator none = new Elevator();
    refused(none, () -> attempt.of(none, 0), () -> attempt.of(none, -1), () -> attempt.of(none, 1));
    Elevator x = three();
    for (int bin : OUTSIDE) {
      refused(x, () -> attempt.of(x, bin));
    }
    for (int bin = 3; bin < 6; bin++) {
      x.addBin(20, true);
      x.load(bin, 10, 150, 10);
    }
    refused(x, () -> attempt.of(x, 6), () -> attempt.of(x, 7));
    Elevator last = x.again();
    answered(Checks.outcomeOf(() -> attempt.of(last, 5)).contains("throws"), false);
  }

  private static void noSuchBin() {
    noBin(4, (x, bin) -> x.capacityOf(bin));
    noBin(10, (x, bin) -> x.load(bin, 1, 100, 0));
    noBin(11, (x, bin) -> x.sell(bin, 1));
    noBin(13, (x, bin) -> x.dry(bin, 100));
    noBin(14, (x, bin) -> x.dryingCost(bin, 100));
    noBin(15, (x, bin) -> x.bushelsIn(bin));
    noBin(16, (x, bin) -> x.layersIn(bin));
    noBin(17, (x, bin) -> x.layerBushels(bin, 0));
    noBin(18, (x, bin) -> x.layerAnew(bin, 0));
    noBin(19, (x, bin) -> x.layerMoisture(bin, 0));
    noBin(20, (x, bin) -> x.layerForeign(bin, 0));
    noBin(21, (x, bin) -> x.layerGrade(bin, 0));
    noBin(22, (x, bin) -> x.meanMoisture(bin));
    noBin(39, (x, bin) -> x.writeBin(bin));
  }

  private static void noSuchBinForEither() {
    sentence(12, NEITHER_BIN);
    noBinFor((x, bin) -> x.transfer(bin, 0, 1));
    noBinFor((x, bin) -> x.transfer(0, bin, 1));
    eitherBin(24, (x, one, other, bushels, moisture) -> x.blendCost(one, other, bushels, moisture));
    eitherBin(25, (x, one, other, bushels, moisture) -> x.blendCostByTrying(one, other, bushels, moisture));
    eitherBin(26, (x, one, other, bushels, moisture) -> x.blendShare(one, other, bushels, moisture));
    eitherBin(27, (x, one, other, bushels, moisture) -> x.sellBlend(one, other, bushels, moisture));
  }

  private static void eitherBin(int promise, Blend blend) {
    sentence(promise, NEITHER_BIN);
    noBinFor((x, bin) -> blend.of(x, bin, 0, 1, 300));
    noBinFor((x, bin) -> blend.of(x, 0, bin, 1, 300));
  }

  private static void noSuchLayer() {
    noLayer(17, Elevator::layerBushels);
    noLayer(18, Elevator::layerAnew);
    noLayer(19, Elevator::layerMoisture);
    noLayer(20, Elevator::layerForeign);
    noLayer(21, Elevator::layerGrade);
  }

  private interface OfLayer {
    Object of(Elevator x, int bin, int index);
  }

  private static void noLayer(int promise, OfLayer call) {
    sentence(promise, NO_BIN + " or layer");
    Elevator x = three();
    x.addBin(10, true);
    x.load(0, 1, 300, 10);
    x.load(0, 1, 150, 10);
    Checks.same(what + ", the layer that is there", Checks.outcomeOf(() -> call.of(x, 0, 2)).contains("throws"), false);
    refused(x, () -> call.of(x, 0, 3), () -> call.of(x, 0, -1), () -> call.of(x, 1, 1), () -> call.of(x, 3, 0));
    x.dry(0, 299);
    refused(x, () -> call.of(x, 0, 2));
    x.sell(0, 10);
    refused(x, () -> call.of(x, 0, 1));
    x.transfer(0, 1, 1);
    refused(x, () -> call.of(x, 0, 0), () -> call.of(x, 1, 2));
    Checks.same(what + ", the layer that came", Checks.outcomeOf(() -> call.of(x, 1, 1)).contains("throws"), false);
    x.sellBlend(1, 2, 21, 300);
    refused(x, () -> call.of(x, 1, 0), () -> call.of(x, 2, 0));
  }

  private static void noSuchTradeEventOrCharacter() {
    sentence(32, INDEX + "if there is no such trade");
    Elevator x = two(100, 100);
    refused(x, () -> x.tradeAt(0), () -> x.tradeAt(-1));
    x.load(0, 5, 150, 10);
    x.transfer(0, 1, 5);
    answered(x.tradeAt(0), 5);
    refused(x, () -> x.tradeAt(1), () -> x.tradeAt(-1), () -> x.tradeAt(80), () -> x.tradeAt(Integer.MAX_VALUE));
    sentence(37, INDEX + "if there is no such event");
    Elevator none = two(100, 100);
    refused(none, () -> none.eventKind(0), () -> none.eventKind(-1));
    answered(x.eventKind(1), 't');
    refused(x, () -> x.eventKind(2), () -> x.eventKind(-1), () -> x.eventKind(80), () -> x.eventKind(1 << 31));
    sentence(40, INDEX + "if there is no such character");
    refused(x, () -> x.lineAt(0), () -> x.lineAt(-1));
    x.writeBin(1);
    answered(x.lineAt(6), '2');
    refused(x, () -> x.lineAt(7), () -> x.lineAt(-1), () -> x.lineAt(1000), () -> x.lineAt(Integer.MAX_VALUE));
    x.writeBin(0);
    refused(x, () -> x.lineAt(0));
  }

  private static void sixBins() {
    sentence(2, STATE + "if there are 6 bins");
    Elevator x = new Elevator();
    for (int bin = 0; bin < 6; bin++) {
      answered(x.addBin(10, true), bin);
    }
    refused(x, () -> x.addBin(10, true), () -> x.addBin(1, false), () -> x.addBin(5000, true));
  }

  private static void argumentsOfBinsRulesAndPrices() {
    sentence(2, ARGUMENT + "if the capacity is out of range");
    Elevator x = three();
    refused(x, () -> x.addBin(0, true), () -> x.addBin(5001, false), () -> x.addBin(-5000, true));
    answered(x.addBin(5000, true), 3);
    sentence(5, AN_ARGUMENT);
    refused(x, () -> x.setRule(-1, 1, 90, 1), () -> x.setRule(4, 1, 90, 1), () -> x.setRule(0, 0, 90, 1));
    refused(x, () -> x.setRule(0, 4, 90, 1), () -> x.setRule(0, 1, 79, 1), () -> x.setRule(0, 1, 301, 1));
    refused(x, () -> x.setRule(0, 1, 90, -1), () -> x.setRule(0, 1, 90, 101), () -> x.setRule(4, 4, 301, 101));
    answered(x.setRule(3, 3, 300, 100), 175);
    sentence(6, ARGUMENT + "if the season is out of range");
    refused(x, () -> x.setSeason(-1), () -> x.setSeason(4));
    answered(x.setSeason(3), 0);
    sentence(7, AN_ARGUMENT);
    refused(x, () -> x.gradeFor(79, 0), () -> x.gradeFor(301, 0), () -> x.gradeFor(80, -1), () -> x.gradeFor(80, 101));
    answered(x.gradeFor(300, 100), 3);
    sentence(8, AN_ARGUMENT);
    refused(x, () -> x.setPrice(0, 1), () -> x.setPrice(5, 1), () -> x.setPrice(1, -1), () -> x.setPrice(4, 2001));
    answered(x.setPrice(4, 2000), 380);
    sentence(9, ARGUMENT + "if there is no such grade");
    refused(x, () -> x.priceOf(0), () -> x.priceOf(5), () -> x.priceOf(-4));
    answered(x.priceOf(4), 2000);
    sentence(28, ARGUMENT + "if the price is out of range");
    refused(x, () -> x.setFutures(-1), () -> x.setFutures(2001));
    answered(x.setFutures(2000), 500);
  }

  private static void argumentsOfGrain() {
    Elevator x = three();
    sentence(10, ARGUMENT + "if another argument is out of range");
    refused(x, () -> x.load(0, 0, 100, 0), () -> x.load(0, 2001, 100, 0), () -> x.load(0, -1, 100, 0));
    refused(x, () -> x.load(0, 1, 79, 0), () -> x.load(0, 1, 301, 0));
    refused(x, () -> x.load(0, 1, 100, -1), () -> x.load(0, 1, 100, 101));
    answered(x.load(0, 1, 300, 100), 4);
    sentence(11, ARGUMENT + "if the number of bushels is out of range");
    refused(x, () -> x.sell(0, 0), () -> x.sell(0, 5001), () -> x.sell(0, -1));
    answered(x.sell(0, 1), 480);
    sentence(12, ARGUMENT + "if both are the same, or the number of bushels is out of range");
    refused(x, () -> x.transfer(0, 0, 1), () -> x.transfer(2, 2, 10));
    refused(x, () -> x.transfer(0, 1, 0), () -> x.transfer(0, 1, 5001), () -> x.transfer(0, 1, -1));
    answered(x.transfer(0, 1, 10), 2);
    sentence(13, THE_MOISTURE);
    refused(x, () -> x.dry(1, 79), () -> x.dry(1, 301));
    answered(x.dry(1, 80), 3);
    sentence(14, THE_MOISTURE);
    refused(x, () -> x.dryingCost(1, 79), () -> x.dryingCost(1, 301));
    answered(x.dryingCost(2, 80), 70);
    sentence(23, THE_MOISTURE);
    refused(x, () -> x.wetShare(79), () -> x.wetShare(301));
    answered(x.wetShare(300), 0.0f);
  }

  private static void notEnoughRoom() {
    sentence(10, STATE + "if the bin has not enough room, or there have been 80 events");
    Elevator x = two(10, 5000);
    refused(x, () -> x.load(0, 11, 100, 0), () -> x.load(0, 2000, 100, 0));
    answered(x.load(0, 4, 100, 0), 1);
    refused(x, () -> x.load(0, 7, 100, 0));
    answered(x.load(0, 6, 100, 0), 1);
    refused(x, () -> x.load(0, 1, 100, 0));
    x.sell(0, 1);
    refused(x, () -> x.load(0, 2, 100, 0));
    answered(x.load(0, 1, 100, 0), 1);
    sentence(12, STATE + "if there is not so much in the one bin, the other one has not enough room, or there have"
        + " been 80 events");
    x.load(1, 20, 150, 0);
    refused(x, () -> x.transfer(1, 0, 1), () -> x.transfer(1, 0, 11));
    x.sell(0, 8);
    refused(x, () -> x.transfer(1, 0, 9), () -> x.transfer(1, 0, 20));
    answered(x.transfer(1, 0, 8), 1);
    refused(x, () -> x.transfer(1, 0, 1));
  }

  private static void notSoMuch() {
    sentence(11, STATE + "if there is not so much in the bin, or there have been 80 events");
    Elevator x = three();
    x.load(0, 1, 100, 0);
    refused(x, () -> x.sell(0, 12), () -> x.sell(1, 11), () -> x.sell(0, 5000));
    answered(x.sell(0, 11), 10 * 480 + 500);
    refused(x, () -> x.sell(0, 1));
    sentence(12, STATE + "if there is not so much in the one bin, the other one has not enough room, or there have"
        + " been 80 events");
    x.addBin(5000, false);
    refused(x, () -> x.transfer(0, 3, 1), () -> x.transfer(1, 3, 11), () -> x.transfer(1, 3, 5000));
    answered(x.transfer(1, 3, 10), 1);
    refused(x, () -> x.transfer(1, 3, 1), () -> x.transfer(3, 1, 11));
  }

  private static void noGreaterMoisture() {
    sentence(13, STATE + "if no layer of the bin has a greater moisture, or there have been 80 events");
    Elevator x = two(100, 100);
    x.load(1, 10, 300, 0);
    refused(x, () -> x.dry(0, 80), () -> x.dry(1, 300));
    x.load(0, 10, 149, 0);
    x.load(0, 10, 150, 0);
    x.load(0, 10, 80, 0);
    refused(x, () -> x.dry(0, 150), () -> x.dry(0, 151), () -> x.dry(0, 300));
    answered(x.dry(0, 149), 1);
    refused(x, () -> x.dry(0, 149));
    x.sell(1, 10);
    refused(x, () -> x.dry(1, 80));
  }

  private static void eightyEvents() {
    worn(10, STATE + "if the bin has not enough room, or there have been 80 events",
        (x, v) -> x.load(0, v, 100, 0), 1);
    worn(11, STATE + "if there is not so much in the bin, or there have been 80 events", (x, v) -> x.sell(1, v), 480);
    worn(12, STATE + "if there is not so much in the one bin, the other one has not enough room, or there have"
        + " been 80 events", (x, v) -> x.transfer(0, 1, v), 1);
    worn(13, STATE + "if no layer of the bin has a greater moisture, or there have been 80 events",
        (x, v) -> x.dry(1, 148 + v), 1);
    worn(27, STATE + "if there have been 80 events", (x, v) -> x.sellBlend(1, 0, v, 300), 480);
  }

  private static void worn(int promise, String words, Attempt attempt, int due) {
    sentence(promise, words);
    Elevator x = worn(79);
    answered(attempt.of(x, 1), due);
    answered(x.eventCount(), 80);
    Elevator y = worn(80);
    answered(y.eventCount(), 80);
    refused(y, () -> attempt.of(y, 1));
  }

  private static void emptyBins() {
    sentence(22, ARITHMETIC + "if the bin is empty");
    Elevator x = two(100, 100);
    refused(x, () -> x.meanMoisture(0), () -> x.meanMoisture(1));
    x.load(0, 1, 300, 0);
    answered(x.meanMoisture(0), 300.0);
    refused(x, () -> x.meanMoisture(1));
    sentence(23, ARITHMETIC + "if all bins are empty");
    answered(x.wetShare(299), 1.0f);
    x.dry(0, 299);
    refused(x, () -> x.wetShare(80), () -> x.wetShare(300));
    x.load(1, 7, 100, 0);
    answered(x.wetShare(100), 0.0f);
    sentence(22, ARITHMETIC + "if the bin is empty");
    refused(x, () -> x.meanMoisture(0));
    x.transfer(1, 0, 7);
    refused(x, () -> x.meanMoisture(1));
    x.sellBlend(1, 0, 3, 100);
    x.sell(0, 4);
    refused(x, () -> x.meanMoisture(0));
    sentence(23, ARITHMETIC + "if all bins are empty");
    Elevator none = new Elevator();
    refused(none, () -> none.wetShare(80));
    refused(x, () -> x.wetShare(100));
  }

  private static void blends() {
    blend(24, (x, one, other, bushels, moisture) -> x.blendCost(one, other, bushels, moisture), 20 * 480);
    blend(25, (x, one, other, bushels, moisture) -> x.blendCostByTrying(one, other, bushels, moisture), 20 * 480);
    blend(26, (x, one, other, bushels, moisture) -> x.blendShare(one, other, bushels, moisture), 10);
    blend(27, (x, one, other, bushels, moisture) -> x.sellBlend(one, other, bushels, moisture), 20 * 480);
  }

  private static void blend(int promise, Blend blend, int due) {
    sentence(promise, BLEND_ARGUMENT);
    Elevator x = three();
    refused(x, () -> blend.of(x, 0, 0, 1, 300), () -> blend.of(x, 2, 2, 20, 150));
    refused(x, () -> blend.of(x, 0, 1, 0, 300), () -> blend.of(x, 0, 1, 501, 300), () -> blend.of(x, 0, 1, -1, 300));
    refused(x, () -> blend.of(x, 0, 1, 1, 79), () -> blend.of(x, 0, 1, 1, 301));
    sentence(promise, NO_BLEND);
    refused(x, () -> blend.of(x, 0, 1, 21, 300), () -> blend.of(x, 0, 1, 500, 300), () -> blend.of(x, 1, 0, 21, 300));
    refused(x, () -> blend.of(x, 0, 1, 20, 149), () -> blend.of(x, 0, 1, 1, 149), () -> blend.of(x, 0, 1, 1, 80));
    answered(blend.of(x, 0, 1, 20, 150), due);
    Elevator none = two(100, 100);
    refused(none, () -> blend.of(none, 0, 1, 1, 300), () -> blend.of(none, 1, 0, 500, 80));
  }

  /** All else that this class refuses is asked in the same way; here it is what later calls would show. */
  private static void changesNothing() {
    what = Document.sentence(Document.TERMS, "A method that throws an exception changes nothing.");
    Elevator x = three();
    Elevator y = x.again();
    x.writeBin(0);
    y.writeBin(0);
    Checks.Call[] calls = {() -> x.addBin(0, true), () -> x.setRule(2, 2, 81, 101), () -> x.setRule(2, 2, 301, 1),
        () -> x.setSeason(4), () -> x.setPrice(1, 2001), () -> x.setFutures(2001), () -> x.load(0, 11, 100, 0),
        () -> x.load(0, 1, 300, 101), () -> x.sell(0, 11), () -> x.transfer(0, 1, 11), () -> x.dry(0, 150),
        () -> x.sellBlend(0, 1, 20, 149), () -> x.sellBlend(0, 1, 21, 300), () -> x.writeBin(3), () -> x.lineAt(99)};
    for (Checks.Call call : calls) {
      Checks.same(what, Checks.outcomeOf(call).startsWith("throws."), true);
    }
    Checks.same(what, Checks.stateOf(x), Checks.stateOf(y));
    for (Elevator each : new Elevator[] {x, y}) {
      Checks.same(what, each.addBin(20, true), 3);
      Checks.same(what, each.transfer(0, 3, 10), 1);
      Checks.same(what, each.dry(3, 140), 1);
      Checks.same(what, each.tradeAt(3), -1);
    }
    Checks.same(what, Checks.stateOf(x), Checks.stateOf(y));
  }

  private static void firstIsThrown() {
    what = Document.sentence(Document.TERMS,
        "If several exceptions apply, the one that is documented first is thrown.");
    Elevator six = three();
    for (int bin = 3; bin < 6; bin++) {
      six.addBin(1, true);
    }
    kind = IllegalArgumentException.class;
    refused(six, () -> six.addBin(0, true), () -> six.addBin(5001, false));
    firstOfGrain(three());
    firstOfGrain(worn(80));
    firstOfBlends(three());
    firstOfBlends(worn(80));
    kind = IllegalArgumentException.class;
    Elevator none = new Elevator();
    refused(none, () -> none.wetShare(79), () -> none.wetShare(301));
    Elevator x = worn(80);
    kind = NoSuchElementException.class;
    refused(x, () -> x.sellBlend(0, 1, 11, 300), () -> x.sellBlend(0, 1, 1, 149));
  }

  private static void firstOfGrain(Elevator x) {
    kind = IndexOutOfBoundsException.class;
    refused(x, () -> x.load(3, 0, 100, 0), () -> x.load(3, 1, 79, 0), () -> x.load(3, 1, 100, 101));
    refused(x, () -> x.load(-1, 2000, 100, 0), () -> x.sell(3, 0), () -> x.sell(-1, 5001), () -> x.sell(3, 5000));
    refused(x, () -> x.transfer(3, 3, 1), () -> x.transfer(3, 0, 0), () -> x.transfer(0, 3, 0));
    refused(x, () -> x.transfer(0, -1, 5001), () -> x.transfer(-1, 0, 5000), () -> x.transfer(0, 3, 5000));
    refused(x, () -> x.dry(3, 79), () -> x.dry(-1, 301), () -> x.dry(3, 300));
    refused(x, () -> x.dryingCost(3, 79), () -> x.dryingCost(-1, 301));
    kind = IllegalArgumentException.class;
    refused(x, () -> x.load(0, 2001, 100, 0), () -> x.load(0, 2000, 301, 0), () -> x.load(0, 2000, 100, 101));
    refused(x, () -> x.load(0, 0, 100, 0), () -> x.load(0, 1, 79, 0), () -> x.load(0, 1, 100, -1));
    refused(x, () -> x.sell(0, 0), () -> x.sell(0, 5001), () -> x.transfer(0, 0, 1), () -> x.transfer(0, 0, 5000));
    refused(x, () -> x.transfer(0, 1, 0), () -> x.transfer(0, 1, 5001), () -> x.dry(0, 79), () -> x.dry(0, 301));
  }

  private static void firstOfBlends(Elevator x) {
    firstOfBlend(x, (y, one, other, bushels, moisture) -> y.blendCost(one, other, bushels, moisture));
    firstOfBlend(x, (y, one, other, bushels, moisture) -> y.blendCostByTrying(one, other, bushels, moisture));
    firstOfBlend(x, (y, one, other, bushels, moisture) -> y.blendShare(one, other, bushels, moisture));
    firstOfBlend(x, (y, one, other, bushels, moisture) -> y.sellBlend(one, other, bushels, moisture));
  }

  private static void firstOfBlend(Elevator x, Blend blend) {
    kind = IndexOutOfBoundsException.class;
    refused(x, () -> blend.of(x, 3, 3, 1, 300), () -> blend.of(x, -1, -1, 1, 300));
    refused(x, () -> blend.of(x, 3, 0, 0, 300), () -> blend.of(x, 0, 3, 501, 300), () -> blend.of(x, 0, 3, 1, 79));
    refused(x, () -> blend.of(x, 3, 0, 500, 300), () -> blend.of(x, 0, -1, 1, 80));
    kind = IllegalArgumentException.class;
    refused(x, () -> blend.of(x, 0, 0, 500, 300), () -> blend.of(x, 1, 1, 1, 80));
    refused(x, () -> blend.of(x, 0, 1, 501, 300), () -> blend.of(x, 0, 1, 500, 79), () -> blend.of(x, 0, 1, 500, 301));
  }
}
