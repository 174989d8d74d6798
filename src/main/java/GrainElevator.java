import java.util.ArrayList;
import java.util.NoSuchElementException;

/** A grain elevator. */
public final class GrainElevator {
  private static final int MOST_BINS = 6;
  private static final int MOST_EVENTS = 80;
  // A load adds one layer and a transfer splits at most one, so there are never more layers than events.
  private static final int MOST_LAYERS = MOST_EVENTS;
  private static final int MOST_CAPACITY = 5000;
  private static final int MOST_LOAD = 2000;
  private static final int MOST_OUTFLOW = 5000;
  private static final int MOST_BLEND = 500;
  private static final int LEAST_MOISTURE = 80;
  private static final int MOST_MOISTURE = 300;
  private static final int MOST_FOREIGN = 100;
  private static final int SEASONS = 4;
  private static final int RULED_GRADES = 3;
  private static final int GRADES = 4;
  private static final int MOST_CENTS = 2000;

  private final ArrayList<Bin> bins = new ArrayList<>();
  private final ArrayList<Bin> binsAnew = new ArrayList<>();
  private final ArrayList<Event> events = new ArrayList<>();
  private final Rules rules = new Rules();
  // The grade is the index, so the first price is never asked for.
  private final int[] prices = {0, 500, 480, 450, 380};
  private final Hedge hedge = new Hedge();
  private final StringBuilder line = new StringBuilder();
  private long cashCents = 0;

  public GrainElevator() {
  }

  // ---- bins, rules and prices

  public int addBin(int capacity, boolean isMassFlow) throws IllegalArgumentException, IllegalStateException {
    checkRange(capacity, 1, MOST_CAPACITY);
    if (bins.size() >= MOST_BINS) {
      throw new IllegalStateException("there are 6 bins");
    }
    bins.add(new Bin(capacity, isMassFlow));
    binsAnew.add(new Bin(capacity, isMassFlow));
    return bins.size() - 1;
  }

  public int binCount() {
    return bins.size();
  }

  public int capacityOf(int bin) throws IndexOutOfBoundsException {
    return binIn(bins, bin).capacity;
  }

  public int setRule(int season, int grade, int moisture, int foreign) throws IllegalArgumentException {
    checkRange(season, 0, SEASONS - 1);
    checkRange(grade, 1, RULED_GRADES);
    checkGrain(moisture, foreign);
    return rules.change(season, grade, moisture, foreign);
  }

  public int setSeason(int season) throws IllegalArgumentException {
    checkRange(season, 0, SEASONS - 1);
    int before = rules.season;
    rules.season = season;
    return before;
  }

  public int gradeFor(int moisture, int foreign) throws IllegalArgumentException {
    checkGrain(moisture, foreign);
    return rules.gradeNow(moisture, foreign);
  }

  public int setPrice(int grade, int cents) throws IllegalArgumentException {
    checkRange(grade, 1, GRADES);
    checkRange(cents, 0, MOST_CENTS);
    int before = prices[grade];
    prices[grade] = cents;
    return before;
  }

  public int priceOf(int grade) throws IllegalArgumentException {
    checkRange(grade, 1, GRADES);
    return prices[grade];
  }

  // ---- grain

  public int load(int bin, int bushels, int moisture, int foreign)
      throws IndexOutOfBoundsException, IllegalArgumentException, IllegalStateException {
    Bin into = binIn(bins, bin);
    checkRange(bushels, 1, MOST_LOAD);
    checkGrain(moisture, foreign);
    checkRoom(into, bushels);
    checkEventLeft();
    int grade = rules.gradeNow(moisture, foreign);
    happen(Event.ofLoad(bin, bushels, moisture, foreign), -bushels * prices[grade]);
    return grade;
  }

  public int sell(int bin, int bushels)
      throws IndexOutOfBoundsException, IllegalArgumentException, IllegalStateException {
    Bin from = binIn(bins, bin);
    checkRange(bushels, 1, MOST_OUTFLOW);
    checkStock(from, bushels);
    checkEventLeft();
    Flow flow = new Flow(from, prices);
    flow.goOn(bushels);
    int paid = flow.cost;
    happen(Event.ofSale(bin, bushels), paid);
    return paid;
  }

  public int transfer(int from, int to, int bushels)
      throws IndexOutOfBoundsException, IllegalArgumentException, IllegalStateException {
    Bin source = binIn(bins, from);
    Bin target = binIn(bins, to);
    checkDifferent(from, to);
    checkRange(bushels, 1, MOST_OUTFLOW);
    checkStock(source, bushels);
    checkRoom(target, bushels);
    checkEventLeft();
    int before = target.count;
    happen(Event.ofTransfer(from, to, bushels), 0);
    return target.count - before;
  }

  public int dry(int bin, int moisture)
      throws IndexOutOfBoundsException, IllegalArgumentException, IllegalStateException {
    Bin dried = binIn(bins, bin);
    checkMoisture(moisture);
    if (dried.wetterThan(moisture) == 0) {
      throw new IllegalStateException("no layer has a greater moisture");
    }
    checkEventLeft();
    int before = dried.total;
    happen(Event.ofDrying(bin, moisture), -dried.costOfDrying(moisture));
    return before - dried.total;
  }

  public int dryingCost(int bin, int moisture) throws IndexOutOfBoundsException, IllegalArgumentException {
    Bin asked = binIn(bins, bin);
    checkMoisture(moisture);
    return asked.costOfDrying(moisture);
  }

  public int bushelsIn(int bin) throws IndexOutOfBoundsException {
    return binIn(bins, bin).total;
  }

  public int layersIn(int bin) throws IndexOutOfBoundsException {
    return binIn(bins, bin).count;
  }

  public int layerBushels(int bin, int index) throws IndexOutOfBoundsException {
    return binWithLayer(bins, bin, index).bushelsAt(index);
  }

  public int layerAnew(int bin, int index) throws IndexOutOfBoundsException {
    goThroughEvents();
    return binWithLayer(binsAnew, bin, index).bushelsAt(index);
  }

  public int layerMoisture(int bin, int index) throws IndexOutOfBoundsException {
    return binWithLayer(bins, bin, index).moistureAt(index);
  }

  public int layerForeign(int bin, int index) throws IndexOutOfBoundsException {
    return binWithLayer(bins, bin, index).foreignAt(index);
  }

  public int layerGrade(int bin, int index) throws IndexOutOfBoundsException {
    return binWithLayer(bins, bin, index).gradeAt(index);
  }

  public double meanMoisture(int bin) throws IndexOutOfBoundsException, ArithmeticException {
    Bin asked = binIn(bins, bin);
    if (asked.total == 0) {
      throw new ArithmeticException("the bin is empty");
    }
    Flow all = new Flow(asked, prices);
    all.goOn(asked.total);
    return (double) all.wet / (double) asked.total;
  }

  public float wetShare(int moisture) throws IllegalArgumentException, ArithmeticException {
    checkMoisture(moisture);
    int all = owned();
    if (all == 0) {
      throw new ArithmeticException("all bins are empty");
    }
    int wet = 0;
    for (int i = 0; i < bins.size(); i++) {
      wet += bins.get(i).wetterThan(moisture);
    }
    return (float) wet / (float) all;
  }

  // ---- blends

  public int blendCost(int one, int other, int bushels, int moisture)
      throws IndexOutOfBoundsException, IllegalArgumentException, NoSuchElementException {
    return goodBlend(one, other, bushels, moisture).cost;
  }

  public int blendCostByTrying(int one, int other, int bushels, int moisture)
      throws IndexOutOfBoundsException, IllegalArgumentException, NoSuchElementException {
    checkBlend(one, other, bushels, moisture);
    Blend best = bestByTrying(binIn(bins, one), binIn(bins, other), bushels, bushels * moisture);
    checkFound(best);
    return best.cost;
  }

  public int blendShare(int one, int other, int bushels, int moisture)
      throws IndexOutOfBoundsException, IllegalArgumentException, NoSuchElementException {
    return goodBlend(one, other, bushels, moisture).share;
  }

  public int sellBlend(int one, int other, int bushels, int moisture)
      throws IndexOutOfBoundsException, IllegalArgumentException, NoSuchElementException, IllegalStateException {
    int share = goodBlend(one, other, bushels, moisture).share;
    checkEventLeft();
    int rest = bushels - share;
    int paid = bushels * prices[gradeOfBlend(binIn(bins, one), binIn(bins, other), share, rest)];
    happen(Event.ofBlend(one, other, share, rest), paid);
    return paid;
  }

  // ---- hedge and money

  public int setFutures(int cents) throws IllegalArgumentException {
    checkRange(cents, 0, MOST_CENTS);
    return hedge.reprice(cents);
  }

  public int hedged() {
    return hedge.bushels;
  }

  public int owned() {
    int sum = 0;
    for (int i = 0; i < bins.size(); i++) {
      sum += bins.get(i).total;
    }
    return sum;
  }

  public int tradeCount() {
    return hedge.count;
  }

  public int tradeAt(int trade) throws IndexOutOfBoundsException {
    if (trade < 0 || trade >= hedge.count || trade >= hedge.trades.length) {
      throw new IndexOutOfBoundsException("there is no such trade");
    }
    return hedge.trades[trade];
  }

  public long gain() {
    return hedge.gainCents;
  }

  public long cash() {
    return cashCents;
  }

  public long worth() {
    long sum = 0;
    for (int i = 0; i < bins.size(); i++) {
      Flow all = new Flow(bins.get(i), prices);
      all.goOn(bins.get(i).total);
      sum += all.cost;
    }
    return sum;
  }

  // ---- events and line

  public int eventCount() {
    return events.size();
  }

  public char eventKind(int event) throws IndexOutOfBoundsException {
    if (event < 0 || event >= events.size()) {
      throw new IndexOutOfBoundsException("there is no such event");
    }
    return events.get(event).kind;
  }

  public boolean isConsistent() {
    if (hedge.bushels != owned() || bins.size() != binsAnew.size()) {
      return false;
    }
    goThroughEvents();
    for (int i = 0; i < bins.size() && i < binsAnew.size(); i++) {
      if (!bins.get(i).hasBushelsOf(binsAnew.get(i))) {
        return false;
      }
    }
    return true;
  }

  public int writeBin(int bin) throws IndexOutOfBoundsException {
    Bin written = binIn(bins, bin);
    line.setLength(0);
    for (int index = 0; index < written.count; index++) {
      if (index > 0) {
        line.append(' ');
      }
      line.append(written.bushelsAt(index));
      line.append('@');
      line.append(written.moistureAt(index));
      line.append('g');
      line.append(written.gradeAt(index));
    }
    return line.length();
  }

  public char lineAt(int index) throws IndexOutOfBoundsException {
    if (index < 0 || index >= line.length()) {
      throw new IndexOutOfBoundsException("there is no such character");
    }
    return line.charAt(index);
  }

  // ---- what is asked before a call does anything

  private static void checkRange(int value, int least, int most) throws IllegalArgumentException {
    if (value < least || value > most) {
      throw new IllegalArgumentException("an argument is out of range");
    }
  }

  private static void checkMoisture(int moisture) throws IllegalArgumentException {
    checkRange(moisture, LEAST_MOISTURE, MOST_MOISTURE);
  }

  private static void checkGrain(int moisture, int foreign) throws IllegalArgumentException {
    checkMoisture(moisture);
    checkRange(foreign, 0, MOST_FOREIGN);
  }

  private static void checkDifferent(int one, int other) throws IllegalArgumentException {
    if (one == other) {
      throw new IllegalArgumentException("both bins are the same");
    }
  }

  private static void checkStock(Bin bin, int bushels) throws IllegalStateException {
    if (bin.total < bushels) {
      throw new IllegalStateException("there is not so much in the bin");
    }
  }

  private static void checkRoom(Bin bin, int bushels) throws IllegalStateException {
    if (bin.capacity - bin.total < bushels) {
      throw new IllegalStateException("the bin has not enough room");
    }
  }

  private void checkEventLeft() throws IllegalStateException {
    if (events.size() >= MOST_EVENTS) {
      throw new IllegalStateException("there have been 80 events");
    }
  }

  private void checkBlend(int one, int other, int bushels, int moisture)
      throws IndexOutOfBoundsException, IllegalArgumentException {
    binIn(bins, one);
    binIn(bins, other);
    checkDifferent(one, other);
    checkRange(bushels, 1, MOST_BLEND);
    checkMoisture(moisture);
  }

  private static void checkFound(Blend best) throws NoSuchElementException {
    if (!best.isFound) {
      throw new NoSuchElementException("no blend is good");
    }
  }

  private static Bin binIn(ArrayList<Bin> some, int bin) throws IndexOutOfBoundsException {
    if (bin < 0 || bin >= some.size()) {
      throw new IndexOutOfBoundsException("there is no such bin");
    }
    return some.get(bin);
  }

  private static Bin binWithLayer(ArrayList<Bin> some, int bin, int index) throws IndexOutOfBoundsException {
    Bin found = binIn(some, bin);
    if (index < 0 || index >= found.count) {
      throw new IndexOutOfBoundsException("there is no such layer");
    }
    return found;
  }

  // ---- events

  private void happen(Event event, int cents) {
    apply(event, bins);
    events.add(event);
    cashCents += cents;
    hedge.follow(owned());
  }

  private void goThroughEvents() {
    for (int i = 0; i < binsAnew.size(); i++) {
      binsAnew.get(i).clear();
    }
    for (int i = 0; i < events.size(); i++) {
      apply(events.get(i), binsAnew);
    }
  }

  // Going through the events anew meets the rules of now, not those of then: of layers gone
  // through anew only the bushels are told, and these do not depend on grades.
  private void apply(Event event, ArrayList<Bin> some) {
    Bin bin = binIn(some, event.bin);
    Bin other = binIn(some, event.other);
    if (event.kind == Event.LOAD) {
      bin.add(event.bushels, event.moisture, event.foreign, rules.gradeNow(event.moisture, event.foreign));
    } else if (event.kind == Event.TRANSFER) {
      bin.letOutInto(other, event.bushels);
    } else if (event.kind == Event.DRYING) {
      bin.dryTo(event.moisture, rules);
    } else {
      bin.letOut(event.bushels);
      other.letOut(event.otherBushels);
    }
  }

  // ---- the search for the best blend

  private Blend goodBlend(int one, int other, int bushels, int moisture)
      throws IndexOutOfBoundsException, IllegalArgumentException, NoSuchElementException {
    checkBlend(one, other, bushels, moisture);
    Blend best = bestByGoingOn(binIn(bins, one), binIn(bins, other), bushels, bushels * moisture);
    checkFound(best);
    return best;
  }

  private Blend bestByGoingOn(Bin one, Bin other, int bushels, int mostWet) {
    Blend best = new Blend();
    Flow fromOne = new Flow(one, prices);
    Flow fromOther = new Flow(other, prices);
    int least = leastShare(other, bushels);
    int most = Math.min(one.total, bushels);
    fromOne.goOn(least);
    fromOther.goOn(bushels - least);
    for (int share = least; share <= most; share++) {
      best.offer(share, fromOne, fromOther, mostWet);
      fromOne.goOn(1);
      fromOther.goBack(1);
    }
    return best;
  }

  private Blend bestByTrying(Bin one, Bin other, int bushels, int mostWet) {
    Blend best = new Blend();
    Flow fromOne = new Flow(one, prices);
    Flow fromOther = new Flow(other, prices);
    int most = Math.min(one.total, bushels);
    for (int share = leastShare(other, bushels); share <= most; share++) {
      fromOne.startAnew();
      fromOther.startAnew();
      fromOne.goOn(share);
      fromOther.goOn(bushels - share);
      best.offer(share, fromOne, fromOther, mostWet);
    }
    return best;
  }

  private static int leastShare(Bin other, int bushels) {
    return Math.max(0, bushels - other.total);
  }

  private int gradeOfBlend(Bin one, Bin other, int share, int rest) {
    Flow fromOne = new Flow(one, prices);
    Flow fromOther = new Flow(other, prices);
    fromOne.goOn(share);
    fromOther.goOn(rest);
    int bushels = share + rest;
    int moisture = dividedUp(fromOne.wet + fromOther.wet, bushels);
    int foreign = dividedUp(fromOne.dirt + fromOther.dirt, bushels);
    return rules.gradeNow(moisture, foreign);
  }

  private static int dividedUp(int sum, int bushels) {
    return bushels < 1 ? 0 : (sum + bushels - 1) / bushels;
  }

  /** The rules of all seasons, and the present season. */
  private static final class Rules {
    final int[] moistures = new int[SEASONS * RULED_GRADES];
    final int[] foreigns = new int[SEASONS * RULED_GRADES];
    int season = 0;

    Rules() {
      for (int i = 0; i + RULED_GRADES <= moistures.length; i += RULED_GRADES) {
        moistures[i] = 140;
        moistures[i + 1] = 155;
        moistures[i + 2] = 175;
        foreigns[i] = 20;
        foreigns[i + 1] = 30;
        foreigns[i + 2] = 40;
      }
    }

    int change(int ofSeason, int grade, int moisture, int foreign) {
      int place = ofSeason * RULED_GRADES + grade - 1;
      if (place < 0 || place >= moistures.length) {
        return 0;
      }
      int before = moistures[place];
      moistures[place] = moisture;
      foreigns[place] = foreign;
      return before;
    }

    int gradeNow(int moisture, int foreign) {
      int start = season * RULED_GRADES;
      for (int grade = 1; grade <= RULED_GRADES; grade++) {
        int place = start + grade - 1;
        if (place >= 0 && place < moistures.length && moisture <= moistures[place] && foreign <= foreigns[place]) {
          return grade;
        }
      }
      return GRADES;
    }
  }

  /** A bin: its layers lie in a ring of slots, from the oldest one on. */
  private static final class Bin {
    final int capacity;
    final boolean isMassFlow;
    final int[] bushels = new int[MOST_LAYERS];
    final int[] moistures = new int[MOST_LAYERS];
    final int[] foreigns = new int[MOST_LAYERS];
    final int[] grades = new int[MOST_LAYERS];
    int oldest = 0;
    int count = 0;
    int total = 0;

    Bin(int capacity, boolean isMassFlow) {
      this.capacity = capacity;
      this.isMassFlow = isMassFlow;
    }

    void clear() {
      oldest = 0;
      count = 0;
      total = 0;
    }

    int slotFromOldest(int steps) {
      return Math.floorMod(oldest + steps, MOST_LAYERS);
    }

    int slotAt(int index) {
      return Math.floorMod(isMassFlow ? oldest + index : oldest + count - 1 - index, MOST_LAYERS);
    }

    int bushelsAt(int index) {
      return bushels[slotAt(index)];
    }

    int moistureAt(int index) {
      return moistures[slotAt(index)];
    }

    int foreignAt(int index) {
      return foreigns[slotAt(index)];
    }

    int gradeAt(int index) {
      return grades[slotAt(index)];
    }

    // Drying can leave a layer without bushels, and such a layer is gone.
    void add(int someBushels, int moisture, int foreign, int grade) {
      if (someBushels < 1 || count >= MOST_LAYERS) {
        return;
      }
      int slot = slotFromOldest(count);
      bushels[slot] = someBushels;
      moistures[slot] = moisture;
      foreigns[slot] = foreign;
      grades[slot] = grade;
      count++;
      total += someBushels;
    }

    int takeOfNext(int wanted) {
      int slot = slotAt(0);
      int part = Math.min(wanted, bushels[slot]);
      bushels[slot] -= part;
      total -= part;
      if (bushels[slot] == 0) {
        oldest = isMassFlow ? slotFromOldest(1) : oldest;
        count--;
      }
      return part;
    }

    void letOut(int wanted) {
      int rest = wanted;
      for (int layers = count; layers > 0 && rest > 0; layers--) {
        rest -= takeOfNext(rest);
      }
    }

    void letOutInto(Bin other, int wanted) {
      int rest = wanted;
      for (int layers = count; layers > 0 && rest > 0; layers--) {
        int slot = slotAt(0);
        int part = takeOfNext(rest);
        other.add(part, moistures[slot], foreigns[slot], grades[slot]);
        rest -= part;
      }
    }

    int wetterThan(int moisture) {
      int sum = 0;
      for (int index = 0; index < count; index++) {
        sum += moistureAt(index) > moisture ? bushelsAt(index) : 0;
      }
      return sum;
    }

    int costOfDrying(int wanted) {
      int sum = 0;
      for (int index = 0; index < count; index++) {
        int excess = moistureAt(index) - wanted;
        sum += excess > 0 ? bushelsAt(index) * excess / 10 : 0;
      }
      return sum;
    }

    // A kept layer is added again at its own slot or before it, so none is lost that is still to be read.
    void dryTo(int wanted, Rules rules) {
      int before = count;
      count = 0;
      total = 0;
      for (int steps = 0; steps < before; steps++) {
        int slot = slotFromOldest(steps);
        if (moistures[slot] > wanted) {
          int kept = shrunk(bushels[slot], moistures[slot], wanted);
          add(kept, wanted, foreigns[slot], rules.gradeNow(wanted, foreigns[slot]));
        } else {
          add(bushels[slot], moistures[slot], foreigns[slot], grades[slot]);
        }
      }
    }

    static int shrunk(int someBushels, int moisture, int wanted) {
      return wanted >= 1000 ? someBushels : someBushels * (1000 - moisture) / (1000 - wanted);
    }

    boolean hasBushelsOf(Bin other) {
      if (count != other.count) {
        return false;
      }
      for (int index = 0; index < count; index++) {
        if (bushelsAt(index) != other.bushelsAt(index)) {
          return false;
        }
      }
      return true;
    }
  }

  /** Goes along the bushels of a bin in the order in which they would flow out, and leaves them there. */
  private static final class Flow {
    final Bin bin;
    final int[] prices;
    int index = 0;
    int usedOfLayer = 0;
    int cost = 0;
    int wet = 0;
    int dirt = 0;

    Flow(Bin bin, int[] prices) {
      this.bin = bin;
      this.prices = prices;
    }

    void startAnew() {
      index = 0;
      usedOfLayer = 0;
      cost = 0;
      wet = 0;
      dirt = 0;
    }

    void goOn(int bushels) {
      int rest = bushels;
      for (; rest > 0 && index < bin.count; index++) {
        int left = bin.bushelsAt(index) - usedOfLayer;
        int part = Math.min(rest, left);
        reckon(part);
        rest -= part;
        if (part < left) {
          return;
        }
        usedOfLayer = 0;
      }
    }

    void goBack(int bushels) {
      int rest = bushels;
      for (int layers = bin.count; layers > 0 && rest > 0; layers--) {
        if (usedOfLayer == 0) {
          if (index == 0) {
            return;
          }
          index--;
          usedOfLayer = bin.bushelsAt(index);
        }
        int part = Math.min(rest, usedOfLayer);
        reckon(-part);
        rest -= part;
      }
    }

    // A part below 0 takes bushels back.
    void reckon(int part) {
      int slot = bin.slotAt(index);
      int grade = bin.grades[slot];
      usedOfLayer += part;
      cost += grade >= 0 && grade < prices.length ? part * prices[grade] : 0;
      wet += part * bin.moistures[slot];
      dirt += part * bin.foreigns[slot];
    }
  }

  /** The best of the good blends that are offered; when shares rise, the least one of several as good. */
  private static final class Blend {
    boolean isFound = false;
    int share = 0;
    int cost = 0;

    void offer(int offeredShare, Flow fromOne, Flow fromOther, int mostWet) {
      int offeredCost = fromOne.cost + fromOther.cost;
      boolean isGood = fromOne.wet + fromOther.wet <= mostWet;
      if (isGood && (!isFound || offeredCost < cost)) {
        isFound = true;
        share = offeredShare;
        cost = offeredCost;
      }
    }
  }

  /** The hedge with its trades. */
  private static final class Hedge {
    final int[] trades = new int[MOST_EVENTS];
    int count = 0;
    int bushels = 0;
    int futures = 500;
    long gainCents = 0;

    void follow(int ownedBushels) {
      int difference = ownedBushels - bushels;
      if (difference == 0 || count >= trades.length) {
        return;
      }
      trades[count] = difference;
      count++;
      bushels = ownedBushels;
    }

    int reprice(int cents) {
      int before = futures;
      gainCents += (long) bushels * (before - cents);
      futures = cents;
      return before;
    }
  }

  /** What is needed to let an event happen again. */
  private static final class Event {
    static final char LOAD = 'l';
    static final char SALE = 's';
    static final char TRANSFER = 't';
    static final char DRYING = 'd';
    static final char BLEND = 'b';

    final char kind;
    final int bin;
    final int other;
    final int bushels;
    final int otherBushels;
    final int moisture;
    final int foreign;

    Event(char kind, int bin, int other, int bushels, int otherBushels, int moisture, int foreign) {
      this.kind = kind;
      this.bin = bin;
      this.other = other;
      this.bushels = bushels;
      this.otherBushels = otherBushels;
      this.moisture = moisture;
      this.foreign = foreign;
    }

    static Event ofLoad(int bin, int bushels, int moisture, int foreign) {
      return new Event(LOAD, bin, bin, bushels, 0, moisture, foreign);
    }

    static Event ofSale(int bin, int bushels) {
      return new Event(SALE, bin, bin, bushels, 0, 0, 0);
    }

    static Event ofTransfer(int from, int to, int bushels) {
      return new Event(TRANSFER, from, to, bushels, 0, 0, 0);
    }

    static Event ofDrying(int bin, int moisture) {
      return new Event(DRYING, bin, bin, 0, 0, moisture, 0);
    }

    // What was cheapest then is told here, as other prices may make another share the cheapest now.
    static Event ofBlend(int one, int other, int share, int rest) {
      return new Event(BLEND, one, other, share, rest, 0, 0);
    }
  }
}
