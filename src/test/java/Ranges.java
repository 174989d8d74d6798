import java.util.function.Supplier;
import java.util.regex.Matcher;
import java.util.regex.Pattern;

/** Each argument's range: what is at both ends is taken, and what is beyond them is refused and changes nothing. */
final class Ranges {
  private static final String MOISTURE = "`moisture`: the moisture in thousandths, 80 to 300";
  private static final String FOREIGN = "`foreign`: the foreign matter in thousandths, 0 to 100";
  private static final String WANTED = "`moisture`: the wanted moisture in thousandths, 80 to 300";
  private static final String GREATEST = "`moisture`: the greatest moisture in thousandths, 80 to 300";
  private static final String BLENDED = "`bushels`: the bushels, 1 to 500";
  private static final String FLOWING = "`bushels`: the bushels, 1 to 5000";
  private static final String LAYER = "`index`: the index of the layer, from 0 for the one that flows out next";

  private interface Attempt {
    Object of(Elevator x, int value);
  }

  private Ranges() {
  }

  static void check() {
    ofBinsAndRules();
    ofPrices();
    ofGrain();
    ofBlends();
    ofLayers();
    ofTradesEventsAndLine();
  }

  private static void range(int promise, String words, Supplier<Elevator> made, Attempt attempt, Object... due) {
    String what = Document.sentence(promise, words);
    Matcher ends = Pattern.compile("(\\d+) to (\\d+)$").matcher(words);
    Checks.same(what + ", its ends", ends.find(), true);
    int least = Integer.parseInt(ends.group(1));
    int most = Integer.parseInt(ends.group(2));
    Elevator one = made.get();
    Checks.same(what + ", at the least", Checks.outcomeOf(() -> attempt.of(one, least)), due[0]);
    Elevator other = made.get();
    Checks.same(what + ", at the most", Checks.outcomeOf(() -> attempt.of(other, most)), due[1]);
    Elevator x = made.get();
    for (int wrong : new int[] {least - 1, most + 1, least + 65536, Integer.MIN_VALUE, Integer.MAX_VALUE}) {
      Checks.refused(what + ", " + wrong, x, IllegalArgumentException.class, () -> attempt.of(x, wrong));
    }
  }

  private static void fromZero(int promise, String words, Supplier<Elevator> made, Attempt attempt, Object... due) {
    String what = Document.sentence(promise, words);
    Elevator x = made.get();
    for (int i = 0; i < due.length; i++) {
      Checks.same(what + ", at " + i, attempt.of(x, i), due[i]);
    }
    for (int wrong : new int[] {-1, due.length, 65536, Integer.MIN_VALUE, Integer.MAX_VALUE}) {
      Checks.refused(what + ", " + wrong, x, IndexOutOfBoundsException.class, () -> attempt.of(x, wrong));
    }
  }

  private static Elevator empty() {
    Elevator x = new Elevator();
    x.addBin(5000, true);
    x.addBin(5000, false);
    return x;
  }

  private static Elevator full() {
    Elevator x = empty();
    x.load(0, 2000, 100, 0);
    x.load(0, 2000, 100, 0);
    x.load(0, 1000, 100, 0);
    return x;
  }

  /** The driest grain and the wettest: 300 and 100 bushels in the first bin, 400 and 600 in the other. */
  private static Elevator mixed() {
    Elevator x = empty();
    x.load(0, 300, 80, 0);
    x.load(0, 100, 300, 0);
    x.load(1, 600, 300, 0);
    x.load(1, 400, 80, 0);
    return x;
  }

  private static void ofBinsAndRules() {
    range(2, "`capacity`: the capacity in bushels, 1 to 5000", Elevator::new,
        (x, v) -> x.addBin(v, true) + ", " + x.capacityOf(0), "0, 1", "0, 5000");
    range(5, "`season`: the season, 0 to 3", Elevator::new,
        (x, v) -> x.setRule(v, 1, 90, 5) + ", " + x.setSeason(v) + ", " + x.gradeFor(91, 5), "140, 0, 2", "140, 0, 2");
    range(5, "`grade`: the grade, 1 to 3", Elevator::new,
        (x, v) -> x.setRule(0, v, 300, 100) + ", " + x.gradeFor(300, 100), "140, 1", "175, 3");
    range(5, MOISTURE, Elevator::new,
        (x, v) -> x.setRule(0, 1, v, 20) + ", " + x.setRule(0, 1, 90, 20), "140, 80", "140, 300");
    range(5, FOREIGN, Elevator::new,
        (x, v) -> x.setRule(0, 1, 140, v) + ", " + x.gradeFor(140, v) + ", " + x.gradeFor(140, v == 100 ? 100 : v + 1),
        "140, 1, 2", "140, 1, 1");
    range(6, "`season`: the season, 0 to 3", Elevator::new,
        (x, v) -> x.setSeason(v) + ", " + x.setSeason(1), "0, 0", "0, 3");
    range(7, MOISTURE, Elevator::new, (x, v) -> x.gradeFor(v, 0), "1", "4");
    range(7, FOREIGN, Elevator::new, (x, v) -> x.gradeFor(80, v), "1", "4");
  }

  private static void ofPrices() {
    range(8, "`grade`: the grade, 1 to 4", Elevator::new,
        (x, v) -> x.setPrice(v, 7) + ", " + x.priceOf(v), "500, 7", "380, 7");
    range(8, "`cents`: the price of a bushel in cents, 0 to 2000", Elevator::new,
        (x, v) -> x.setPrice(2, v) + ", " + x.priceOf(2), "480, 0", "480, 2000");
    range(9, "`grade`: the grade, 1 to 4", Elevator::new, (x, v) -> x.priceOf(v), "500", "380");
    range(28, "`cents`: the price of a bushel in cents, 0 to 2000", Ranges::full,
        (x, v) -> x.setFutures(v) + ", " + x.gain() + ", " + x.setFutures(1), "500, 2500000, 0", "500, -7500000, 2000");
  }

  private static void ofGrain() {
    range(10, "`bushels`: the bushels, 1 to 2000", Ranges::empty,
        (x, v) -> x.load(0, v, 100, 0) + ", " + x.bushelsIn(0) + ", " + x.cash(), "1, 1, -500", "1, 2000, -1000000");
    range(10, MOISTURE, Ranges::empty, (x, v) -> x.load(1, 1, v, 0) + ", " + x.layerMoisture(1, 0), "1, 80", "4, 300");
    range(10, FOREIGN, Ranges::empty, (x, v) -> x.load(1, 1, 80, v) + ", " + x.layerForeign(1, 0), "1, 0", "4, 100");
    range(11, FLOWING, Ranges::full, (x, v) -> x.sell(0, v) + ", " + x.owned(), "500, 4999", "2500000, 0");
    range(12, FLOWING, Ranges::full,
        (x, v) -> x.transfer(0, 1, v) + ", " + x.bushelsIn(0) + ", " + x.bushelsIn(1), "1, 4999, 1", "3, 0, 5000");
    range(13, WANTED, Ranges::mixed, (x, v) -> x.dry(0, v) + ", " + x.layerMoisture(0, 1),
        "24, 80", "throws.IllegalStateException");
    range(14, WANTED, Ranges::mixed, (x, v) -> x.dryingCost(1, v), "13200", "0");
    range(23, "`moisture`: a moisture in thousandths, 80 to 300", Ranges::mixed, (x, v) -> x.wetShare(v), "0.5", "0.0");
  }

  private static void ofBlends() {
    range(24, BLENDED, Ranges::mixed, (x, v) -> x.blendCost(0, 1, v, 300), "500", "238000");
    range(25, BLENDED, Ranges::mixed, (x, v) -> x.blendCostByTrying(0, 1, v, 300), "500", "238000");
    range(26, BLENDED, Ranges::mixed, (x, v) -> x.blendShare(1, 0, v, 300), "0", "100");
    range(27, BLENDED, Ranges::mixed, (x, v) -> x.sellBlend(0, 1, v, 300) + ", " + x.owned(),
        "500, 1399", "250000, 900");
    range(24, GREATEST, Ranges::mixed, (x, v) -> x.blendCost(1, 0, 500, v), "250000", "238000");
    range(25, GREATEST, Ranges::mixed, (x, v) -> x.blendCostByTrying(1, 0, 500, v), "250000", "238000");
    range(26, GREATEST, Ranges::mixed, (x, v) -> x.blendShare(1, 0, 500, v), "200", "100");
    range(27, GREATEST, Ranges::mixed, (x, v) -> x.sellBlend(1, 0, 500, v) + ", " + x.owned(),
        "250000, 900", "250000, 900");
  }

  private static void ofLayers() {
    fromZero(17, LAYER, Ranges::mixed, (x, v) -> x.layerBushels(0, v), 300, 100);
    fromZero(17, LAYER, Ranges::mixed, (x, v) -> x.layerBushels(1, v), 400, 600);
    fromZero(18, LAYER, Ranges::mixed, (x, v) -> x.layerAnew(0, v), 300, 100);
    fromZero(18, LAYER, Ranges::mixed, (x, v) -> x.layerAnew(1, v), 400, 600);
    fromZero(19, LAYER, Ranges::mixed, (x, v) -> x.layerMoisture(0, v), 80, 300);
    fromZero(19, LAYER, Ranges::mixed, (x, v) -> x.layerMoisture(1, v), 80, 300);
    fromZero(20, LAYER, Ranges::dirty, (x, v) -> x.layerForeign(0, v), 1, 2, 3);
    fromZero(20, LAYER, Ranges::dirty, (x, v) -> x.layerForeign(1, v), 43, 42, 41);
    fromZero(21, LAYER, Ranges::dirty, (x, v) -> x.layerGrade(0, v), 1, 2, 3);
    fromZero(21, LAYER, Ranges::dirty, (x, v) -> x.layerGrade(1, v), 4, 4, 4);
  }

  private static Elevator dirty() {
    Elevator x = empty();
    for (int i = 1; i <= 3; i++) {
      x.load(0, 5, 125 + 15 * i, i);
      x.load(1, 5, 100, 40 + i);
    }
    return x;
  }

  private static void ofTradesEventsAndLine() {
    Supplier<Elevator> three = () -> {
      Elevator x = full();
      x.sell(0, 4993);
      x.transfer(0, 1, 3);
      x.writeBin(1);
      return x;
    };
    fromZero(32, "`trade`: the number of the trade, from 0", three, (x, v) -> x.tradeAt(v), 2000, 2000, 1000, -4993);
    fromZero(37, "`event`: the number of the event, from 0", three, (x, v) -> x.eventKind(v), 'l', 'l', 'l', 's', 't');
    fromZero(40, "`index`: index of the character, from 0", three, (x, v) -> x.lineAt(v),
        '3', '@', '1', '0', '0', 'g', '1');
  }
}
