import java.util.ArrayList;
import java.util.List;
import java.util.NoSuchElementException;

/**
 * The elevator told once more, as plainly as can be: a layer is a list of single bushels, and what the program
 * reckons with sums and keeps in rows is counted here bushel by bushel. Its methods bear the names of the face.
 */
public final class Model {
  private record Grain(int moisture, int foreign, int grade) {
  }

  private static final class Bin {
    final int capacity;
    final boolean isMassFlow;
    List<List<Grain>> oldestFirst = new ArrayList<>();

    Bin(int capacity, boolean isMassFlow) {
      this.capacity = capacity;
      this.isMassFlow = isMassFlow;
    }

    int place(int index) {
      return isMassFlow ? index : oldestFirst.size() - 1 - index;
    }

    List<Grain> inOrder() {
      List<Grain> all = new ArrayList<>();
      for (int i = 0; i < oldestFirst.size(); i++) {
        all.addAll(oldestFirst.get(place(i)));
      }
      return all;
    }

    List<List<Grain>> flowOut(int bushels) {
      List<List<Grain>> parts = new ArrayList<>();
      int flown = 0;
      while (flown < bushels) {
        List<Grain> next = oldestFirst.get(place(0));
        List<Grain> part = new ArrayList<>();
        while (flown < bushels && !next.isEmpty()) {
          part.add(next.remove(0));
          flown++;
        }
        parts.add(part);
        if (next.isEmpty()) {
          oldestFirst.remove(place(0));
        }
      }
      return parts;
    }
  }

  private final List<Bin> bins = new ArrayList<>();
  private final int[][] moistures = {{140, 155, 175}, {140, 155, 175}, {140, 155, 175}, {140, 155, 175}};
  private final int[][] foreigns = {{20, 30, 40}, {20, 30, 40}, {20, 30, 40}, {20, 30, 40}};
  private final int[] prices = {500, 480, 450, 380};
  private final List<Integer> trades = new ArrayList<>();
  private int season = 0;
  private int futures = 500;
  private long gain = 0;
  private long cash = 0;
  private String kinds = "";
  private String line = "";

  private static void argument(boolean isFine) {
    if (!isFine) {
      throw new IllegalArgumentException();
    }
  }

  private static void index(boolean isFine) {
    if (!isFine) {
      throw new IndexOutOfBoundsException();
    }
  }

  private static void state(boolean isFine) {
    if (!isFine) {
      throw new IllegalStateException();
    }
  }

  private static boolean isIn(int value, int least, int most) {
    return least <= value && value <= most;
  }

  private Bin bin(int bin) {
    index(isIn(bin, 0, bins.size() - 1));
    return bins.get(bin);
  }

  private List<Grain> layer(int bin, int index) {
    Bin of = bin(bin);
    index(isIn(index, 0, of.oldestFirst.size() - 1));
    return of.oldestFirst.get(of.place(index));
  }

  private List<Grain> allGrain() {
    List<Grain> all = new ArrayList<>();
    for (Bin bin : bins) {
      all.addAll(bin.inOrder());
    }
    return all;
  }

  private int brings(List<Grain> some) {
    return some.stream().mapToInt(grain -> prices[grain.grade() - 1]).sum();
  }

  private void happened(char kind, long cents) {
    kinds += kind;
    cash += cents;
    int difference = owned() - hedged();
    if (difference != 0) {
      trades.add(difference);
    }
  }

  public int addBin(int capacity, boolean isMassFlow) {
    argument(isIn(capacity, 1, 5000));
    state(bins.size() < 6);
    bins.add(new Bin(capacity, isMassFlow));
    return bins.size() - 1;
  }

  public int binCount() {
    return bins.size();
  }

  public int capacityOf(int bin) {
    return bin(bin).capacity;
  }

  public int setRule(int ofSeason, int grade, int moisture, int foreign) {
    argument(isIn(ofSeason, 0, 3) && isIn(grade, 1, 3) && isIn(moisture, 80, 300) && isIn(foreign, 0, 100));
    int before = moistures[ofSeason][grade - 1];
    moistures[ofSeason][grade - 1] = moisture;
    foreigns[ofSeason][grade - 1] = foreign;
    return before;
  }

  public int setSeason(int newSeason) {
    argument(isIn(newSeason, 0, 3));
    int before = season;
    season = newSeason;
    return before;
  }

  public int gradeFor(int moisture, int foreign) {
    argument(isIn(moisture, 80, 300) && isIn(foreign, 0, 100));
    int grade = 1;
    while (grade < 4 && (moisture > moistures[season][grade - 1] || foreign > foreigns[season][grade - 1])) {
      grade++;
    }
    return grade;
  }

  public int setPrice(int grade, int cents) {
    argument(isIn(grade, 1, 4) && isIn(cents, 0, 2000));
    int before = prices[grade - 1];
    prices[grade - 1] = cents;
    return before;
  }

  public int priceOf(int grade) {
    argument(isIn(grade, 1, 4));
    return prices[grade - 1];
  }

  public int load(int bin, int bushels, int moisture, int foreign) {
    Bin into = bin(bin);
    argument(isIn(bushels, 1, 2000) && isIn(moisture, 80, 300) && isIn(foreign, 0, 100));
    state(into.inOrder().size() + bushels <= into.capacity && eventCount() < 80);
    int grade = gradeFor(moisture, foreign);
    List<Grain> layer = new ArrayList<>();
    for (int i = 0; i < bushels; i++) {
      layer.add(new Grain(moisture, foreign, grade));
    }
    into.oldestFirst.add(layer);
    happened('l', -brings(layer));
    return grade;
  }

  public int sell(int bin, int bushels) {
    Bin from = bin(bin);
    argument(isIn(bushels, 1, 5000));
    state(bushels <= from.inOrder().size() && eventCount() < 80);
    int paid = 0;
    for (List<Grain> part : from.flowOut(bushels)) {
      paid += brings(part);
    }
    happened('s', paid);
    return paid;
  }

  public int transfer(int from, int to, int bushels) {
    Bin one = bin(from);
    Bin other = bin(to);
    argument(from != to && isIn(bushels, 1, 5000));
    state(bushels <= one.inOrder().size() && other.inOrder().size() + bushels <= other.capacity && eventCount() < 80);
    List<List<Grain>> parts = one.flowOut(bushels);
    other.oldestFirst.addAll(parts);
    happened('t', 0);
    return parts.size();
  }

  public int dry(int bin, int moisture) {
    Bin dried = bin(bin);
    argument(isIn(moisture, 80, 300));
    state(dried.inOrder().stream().anyMatch(grain -> grain.moisture() > moisture) && eventCount() < 80);
    int cost = dryingCost(bin, moisture);
    int before = dried.inOrder().size();
    List<List<Grain>> left = new ArrayList<>();
    for (List<Grain> layer : dried.oldestFirst) {
      Grain grain = layer.get(0);
      if (grain.moisture() <= moisture) {
        left.add(layer);
        continue;
      }
      List<Grain> kept = new ArrayList<>();
      while ((kept.size() + 1) * (1000 - moisture) <= layer.size() * (1000 - grain.moisture())) {
        kept.add(new Grain(moisture, grain.foreign(), gradeFor(moisture, grain.foreign())));
      }
      if (!kept.isEmpty()) {
        left.add(kept);
      }
    }
    dried.oldestFirst = left;
    happened('d', -cost);
    return before - dried.inOrder().size();
  }

  public int dryingCost(int bin, int moisture) {
    Bin asked = bin(bin);
    argument(isIn(moisture, 80, 300));
    int cost = 0;
    for (List<Grain> layer : asked.oldestFirst) {
      int tenths = layer.stream().mapToInt(grain -> Math.max(0, grain.moisture() - moisture)).sum();
      cost += (tenths - tenths % 10) / 10;
    }
    return cost;
  }

  public int bushelsIn(int bin) {
    return bin(bin).inOrder().size();
  }

  public int layersIn(int bin) {
    return bin(bin).oldestFirst.size();
  }

  public int layerBushels(int bin, int index) {
    return layer(bin, index).size();
  }

  public int layerAnew(int bin, int index) {
    return layer(bin, index).size();
  }

  public int layerMoisture(int bin, int index) {
    return layer(bin, index).get(0).moisture();
  }

  public int layerForeign(int bin, int index) {
    return layer(bin, index).get(0).foreign();
  }

  public int layerGrade(int bin, int index) {
    return layer(bin, index).get(0).grade();
  }

  public double meanMoisture(int bin) {
    List<Grain> all = bin(bin).inOrder();
    if (all.isEmpty()) {
      throw new ArithmeticException();
    }
    double sum = all.stream().mapToInt(Grain::moisture).sum();
    return sum / all.size();
  }

  public float wetShare(int moisture) {
    argument(isIn(moisture, 80, 300));
    if (allGrain().isEmpty()) {
      throw new ArithmeticException();
    }
    float wet = allGrain().stream().filter(grain -> grain.moisture() > moisture).count();
    return wet / allGrain().size();
  }

  private List<Grain> blendOf(int one, int other, int share, int bushels) {
    List<Grain> fromOne = bin(one).inOrder();
    List<Grain> fromOther = bin(other).inOrder();
    if (share > fromOne.size() || bushels - share > fromOther.size()) {
      return null;
    }
    List<Grain> blend = new ArrayList<>(fromOne.subList(0, share));
    blend.addAll(fromOther.subList(0, bushels - share));
    return blend;
  }

  public int blendShare(int one, int other, int bushels, int moisture) {
    bin(one);
    bin(other);
    argument(one != other && isIn(bushels, 1, 500) && isIn(moisture, 80, 300));
    int best = -1;
    int least = Integer.MAX_VALUE;
    for (int share = 0; share <= bushels; share++) {
      List<Grain> blend = blendOf(one, other, share, bushels);
      if (blend != null && blend.stream().mapToInt(grain -> grain.moisture() - moisture).sum() <= 0
          && brings(blend) < least) {
        best = share;
        least = brings(blend);
      }
    }
    if (best < 0) {
      throw new NoSuchElementException();
    }
    return best;
  }

  public int blendCost(int one, int other, int bushels, int moisture) {
    return brings(blendOf(one, other, blendShare(one, other, bushels, moisture), bushels));
  }

  public int blendCostByTrying(int one, int other, int bushels, int moisture) {
    return blendCost(one, other, bushels, moisture);
  }

  public int sellBlend(int one, int other, int bushels, int moisture) {
    int share = blendShare(one, other, bushels, moisture);
    state(eventCount() < 80);
    List<Grain> blend = blendOf(one, other, share, bushels);
    double wet = blend.stream().mapToInt(Grain::moisture).sum();
    double dirt = blend.stream().mapToInt(Grain::foreign).sum();
    int grade = gradeFor((int) Math.ceil(wet / bushels), (int) Math.ceil(dirt / bushels));
    bin(one).flowOut(share);
    bin(other).flowOut(bushels - share);
    int paid = bushels * priceOf(grade);
    happened('b', paid);
    return paid;
  }

  public int setFutures(int cents) {
    argument(isIn(cents, 0, 2000));
    int before = futures;
    gain += (long) hedged() * (before - cents);
    futures = cents;
    return before;
  }

  public int hedged() {
    return trades.stream().mapToInt(trade -> trade).sum();
  }

  public int owned() {
    return allGrain().size();
  }

  public int tradeCount() {
    return trades.size();
  }

  public int tradeAt(int trade) {
    index(isIn(trade, 0, trades.size() - 1));
    return trades.get(trade);
  }

  public long gain() {
    return gain;
  }

  public long cash() {
    return cash;
  }

  public long worth() {
    return brings(allGrain());
  }

  public int eventCount() {
    return kinds.length();
  }

  public char eventKind(int event) {
    index(isIn(event, 0, kinds.length() - 1));
    return kinds.charAt(event);
  }

  public boolean isConsistent() {
    return true;
  }

  public int writeBin(int bin) {
    List<String> words = new ArrayList<>();
    for (int i = 0; i < layersIn(bin); i++) {
      words.add(layerBushels(bin, i) + "@" + layerMoisture(bin, i) + "g" + layerGrade(bin, i));
    }
    line = String.join(" ", words);
    return line.length();
  }

  public char lineAt(int index) {
    index(isIn(index, 0, line.length() - 1));
    return line.charAt(index);
  }
}
