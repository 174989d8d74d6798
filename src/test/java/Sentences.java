/** What a test needs that goes by the sentences of the document. */
abstract class Sentences {
  private static String what = "";
  private static int asked = 0;

  /** What is asked from here on is due by this sentence. */
  static void sentence(int promise, String words) {
    what = Document.sentence(promise, words);
    asked = 0;
  }

  private static String next() {
    asked++;
    return what + " Check " + asked;
  }

  static void due(Object got, Object due) {
    Checks.same(next(), got, due);
  }

  static void thrown(Checks.Call call, String name) {
    Checks.same(next(), Checks.outcomeOf(call), "throws." + name);
  }

  static void written(Elevator x, int bin, String line) {
    Checks.same(next() + ", bin " + bin, Checks.written(x, bin), line);
  }

  /** The even ones have mass flow. */
  static Elevator bins(int count) {
    Elevator x = new Elevator();
    for (int bin = 0; bin < count; bin++) {
      x.addBin(5000, bin % 2 == 0);
    }
    return x;
  }

  /** 10, 20 and 30 bushels of the grades 1, 2 and 3 in each of two bins, in this order. */
  static Elevator filled() {
    Elevator x = bins(2);
    for (int bin = 0; bin < 2; bin++) {
      x.load(bin, 10, 140, 20);
      x.load(bin, 20, 150, 25);
      x.load(bin, 30, 170, 10);
    }
    return x;
  }

  static void blend(Elevator x, String bins, int bushels, int moisture, String costAndShare) {
    int one = bins.charAt(0) - '0';
    int other = bins.charAt(1) - '0';
    String call = next() + ", bins " + one + " and " + other + ", " + bushels + ", " + moisture;
    String cost = Checks.outcomeOf(() -> x.blendCost(one, other, bushels, moisture));
    Checks.same(call, cost + ", " + Checks.outcomeOf(() -> x.blendShare(one, other, bushels, moisture)), costAndShare);
    Checks.same(call, Checks.outcomeOf(() -> x.blendCostByTrying(one, other, bushels, moisture)), cost);
  }

  static String trades(Elevator x) {
    StringBuilder all = new StringBuilder();
    for (int i = 0; i < x.seen().tradeCount(); i++) {
      all.append(x.seen().tradeAt(i)).append(' ');
    }
    return all.append("of ").append(x.hedged()).toString();
  }
}
