import java.util.NoSuchElementException;

/** For each promise of the document: ordinary inputs, the edges that it names, and wrong inputs. */
public final class PromisesTest {
  private static final Class<IndexOutOfBoundsException> INDEX = IndexOutOfBoundsException.class;
  private static final Class<IllegalArgumentException> ARGUMENT = IllegalArgumentException.class;
  private static final Class<IllegalStateException> STATE = IllegalStateException.class;
  private static final Class<NoSuchElementException> NONE = NoSuchElementException.class;
  private static final Class<ArithmeticException> ARITHMETIC = ArithmeticException.class;

  public static void main(String[] args) {
    promise1();
    promise2to4();
    promise5();
    promise6();
    promise7();
    promise8();
    promise9();
    promise10();
    promise11();
    promise12();
    promise13();
    promise14();
    promise15();
    promise16to21();
    promise22();
    promise23();
    promise24to26();
    promise24to26wrong();
    promise27();
    promise28();
    promise29to32();
    promise33();
    promise34();
    promise35();
    promise36to37();
    promise38();
    promise39();
    promise40();
    lastEvent();
    Checks.finish("PromisesTest");
  }

  /** An elevator with a bin with mass flow (0) and one without (1), 1000 bushels each. */
  private static Elevator twoBins() {
    Elevator x = new Elevator();
    x.addBin(1000, true);
    x.addBin(1000, false);
    return x;
  }

  private static Elevator filled() {
    Elevator x = twoBins();
    for (int bin = 0; bin < 2; bin++) {
      x.load(bin, 10, 140, 20);
      x.load(bin, 20, 150, 25);
      x.load(bin, 30, 170, 10);
    }
    return x;
  }

  /** All the 80 events have been, and 80 bushels lie in each of both bins, all with a moisture of 150. */
  private static Elevator worn() {
    Elevator x = twoBins();
    for (int i = 0; i < 80; i++) {
      x.load(i % 2, 2, 150, 10);
    }
    return x;
  }

  private static void promise1() {
    Elevator x = new Elevator();
    Checks.same("new binCount", x.binCount(), 0);
    Checks.same("new owned", x.owned(), 0);
    Checks.same("new hedged", x.hedged(), 0);
    Checks.same("new cash", x.cash(), 0L);
    Checks.same("new gain", x.gain(), 0L);
    Checks.same("new worth", x.worth(), 0L);
    Checks.same("new eventCount", x.eventCount(), 0);
    Checks.same("new tradeCount", x.tradeCount(), 0);
    Checks.same("new isConsistent", x.isConsistent(), true);
    Checks.same("new line", Checks.lineOf(x), "");
    Elevator other = new Elevator();
    x.addBin(10, true);
    x.load(0, 5, 100, 0);
    x.setPrice(1, 1);
    Checks.same("another object's bins", other.binCount(), 0);
    Checks.same("another object's price", other.priceOf(1), 500);
  }

  private static void promise2to4() {
    Elevator x = new Elevator();
    Checks.refused("capacityOf(0) without bins", x, INDEX, () -> x.capacityOf(0));
    Checks.refused("addBin(0)", x, ARGUMENT, () -> x.addBin(0, true));
    Checks.refused("addBin(5001)", x, ARGUMENT, () -> x.addBin(5001, false));
    Checks.refused("addBin(least int)", x, ARGUMENT, () -> x.addBin(Integer.MIN_VALUE, false));
    int[] capacities = {1, 5000, 7, 8, 9, 10};
    for (int i = 0; i < 6; i++) {
      Checks.same("addBin " + i, x.addBin(capacities[i], i % 2 == 0), i);
      Checks.same("binCount", x.binCount(), i + 1);
    }
    for (int i = 0; i < 6; i++) {
      Checks.same("capacityOf " + i, x.capacityOf(i), capacities[i]);
      Checks.same("bushels of an empty bin", x.bushelsIn(i), 0);
      Checks.same("layers of an empty bin", x.layersIn(i), 0);
    }
    Checks.refused("seventh bin", x, STATE, () -> x.addBin(1, true));
    Checks.refused("seventh bin, wrong capacity", x, ARGUMENT, () -> x.addBin(0, true));
    Checks.refused("capacityOf(6)", x, INDEX, () -> x.capacityOf(6));
    Checks.refused("capacityOf(-1)", x, INDEX, () -> x.capacityOf(-1));
    Checks.refused("capacityOf(greatest int)", x, INDEX, () -> x.capacityOf(Integer.MAX_VALUE));
    x.load(1, 7, 100, 0);
    Checks.same("capacityOf stays", x.capacityOf(1), 5000);
  }

  private static void promise5() {
    Elevator x = filled();
    Checks.same("setRule 1", x.setRule(0, 1, 150, 25), 140);
    Checks.same("setRule 1 again", x.setRule(0, 1, 80, 0), 150);
    Checks.same("setRule 2", x.setRule(0, 2, 300, 100), 155);
    Checks.same("setRule 3", x.setRule(3, 3, 200, 50), 175);
    Checks.same("setRule 2 of another season", x.setRule(2, 2, 160, 31), 155);
    Checks.same("the grades of layers stay", x.layerGrade(0, 1), 2);
    Checks.same("grade by the new rule, edge", x.gradeFor(80, 0), 1);
    Checks.same("grade by the new rule, moisture over it", x.gradeFor(81, 0), 2);
    Checks.same("grade by the new rule, foreign over it", x.gradeFor(80, 1), 2);
    Checks.same("rule 2 takes all", x.gradeFor(300, 100), 2);
    x.setSeason(2);
    Checks.same("season 2, grade 1", x.gradeFor(140, 20), 1);
    Checks.same("season 2, grade 2", x.gradeFor(160, 31), 2);
    x.setSeason(3);
    Checks.same("season 3, grade 3", x.gradeFor(200, 50), 3);
    Checks.same("season 3, grade 4", x.gradeFor(201, 50), 4);
    int[][] wrong = {
      {-1, 1, 100, 0}, {4, 1, 100, 0}, {0, 0, 100, 0}, {0, 4, 100, 0}, {0, 1, 79, 0}, {0, 1, 301, 0},
      {0, 1, 100, -1}, {0, 1, 100, 101}, {Integer.MAX_VALUE, 1, 100, 0}, {0, Integer.MIN_VALUE, 100, 0}};
    for (int[] w : wrong) {
      Checks.refused("setRule wrong", x, ARGUMENT, () -> x.setRule(w[0], w[1], w[2], w[3]));
    }
  }

  private static void promise6() {
    Elevator x = filled();
    x.setRule(1, 1, 300, 100);
    Checks.same("setSeason(1)", x.setSeason(1), 0);
    Checks.same("grade in season 1", x.gradeFor(300, 100), 1);
    Checks.same("the grades of layers stay", x.layerGrade(0, 1), 2);
    Checks.same("load in season 1", x.load(0, 1, 300, 100), 1);
    Checks.same("setSeason(3)", x.setSeason(3), 1);
    Checks.same("setSeason(3) again", x.setSeason(3), 3);
    Checks.same("grade in season 3", x.gradeFor(300, 100), 4);
    Checks.same("setSeason(0)", x.setSeason(0), 3);
    Checks.refused("setSeason(-1)", x, ARGUMENT, () -> x.setSeason(-1));
    Checks.refused("setSeason(4)", x, ARGUMENT, () -> x.setSeason(4));
    Checks.same("season stays after a wrong one", x.setSeason(2), 0);
  }

  private static void promise7() {
    Elevator x = new Elevator();
    int[][] rows = {
      {80, 0, 1}, {140, 20, 1}, {141, 20, 2}, {140, 21, 2}, {155, 30, 2}, {156, 30, 3}, {155, 31, 3},
      {175, 40, 3}, {176, 40, 4}, {175, 41, 4}, {300, 100, 4}, {80, 100, 4}, {300, 0, 4}};
    for (int season = 0; season < 4; season++) {
      x.setSeason(season);
      for (int[] r : rows) {
        Checks.same("gradeFor(" + r[0] + ", " + r[1] + ") in season " + season, x.gradeFor(r[0], r[1]), r[2]);
      }
    }
    x.setRule(3, 1, 100, 50);
    x.setRule(3, 2, 90, 60);
    x.setRule(3, 3, 95, 10);
    Checks.same("the first rule that holds", x.gradeFor(95, 10), 1);
    Checks.same("a rule out of order", x.gradeFor(90, 60), 2);
    Checks.same("no rule", x.gradeFor(101, 0), 4);
    Checks.refused("gradeFor(79, 0)", x, ARGUMENT, () -> x.gradeFor(79, 0));
    Checks.refused("gradeFor(301, 0)", x, ARGUMENT, () -> x.gradeFor(301, 0));
    Checks.refused("gradeFor(80, -1)", x, ARGUMENT, () -> x.gradeFor(80, -1));
    Checks.refused("gradeFor(80, 101)", x, ARGUMENT, () -> x.gradeFor(80, 101));
  }

  private static void promise8() {
    Elevator x = filled();
    int[] before = {500, 480, 450, 380};
    for (int grade = 1; grade <= 4; grade++) {
      int g = grade;
      Checks.same("setPrice of " + g, x.setPrice(g, 2000 - g), before[g - 1]);
      Checks.same("setPrice again", x.setPrice(g, 100 + g), 2000 - g);
      Checks.same("priceOf after setPrice", x.priceOf(g), 100 + g);
      Checks.refused("setPrice(.., -1)", x, ARGUMENT, () -> x.setPrice(g, -1));
      Checks.refused("setPrice(.., 2001)", x, ARGUMENT, () -> x.setPrice(g, 2001));
    }
    Checks.same("setPrice to 0", x.setPrice(1, 0), 101);
    Checks.same("setPrice to 2000", x.setPrice(1, 2000), 0);
    Checks.same("sell at the new prices", x.sell(0, 30), 10 * 2000 + 20 * 102);
    Checks.refused("setPrice(0, ..)", x, ARGUMENT, () -> x.setPrice(0, 1));
    Checks.refused("setPrice(5, ..)", x, ARGUMENT, () -> x.setPrice(5, 1));
  }

  private static void promise9() {
    Elevator x = new Elevator();
    int[] due = {500, 480, 450, 380};
    for (int grade = 1; grade <= 4; grade++) {
      Checks.same("priceOf " + grade, x.priceOf(grade), due[grade - 1]);
    }
    Checks.refused("priceOf(0)", x, ARGUMENT, () -> x.priceOf(0));
    Checks.refused("priceOf(5)", x, ARGUMENT, () -> x.priceOf(5));
    Checks.refused("priceOf(least int)", x, ARGUMENT, () -> x.priceOf(Integer.MIN_VALUE));
  }

  private static void promise10() {
    Elevator x = twoBins();
    Checks.same("load grade 1", x.load(0, 1, 140, 20), 1);
    Checks.same("load grade 2", x.load(0, 2, 155, 30), 2);
    Checks.same("load grade 3", x.load(0, 3, 175, 40), 3);
    Checks.same("load grade 4", x.load(0, 4, 300, 100), 4);
    Checks.same("layers are not joined", x.load(0, 4, 300, 100), 4);
    Checks.same("oldest first", Checks.written(x, 0), "1@140g1 2@155g2 3@175g3 4@300g4 4@300g4");
    Checks.same("cash", x.cash(), -(500L + 960 + 1350 + 1520 + 1520));
    x.load(1, 1, 80, 0);
    x.load(1, 999, 90, 0);
    Checks.same("newest first, bin full", Checks.written(x, 1), "999@90g1 1@80g1");
    Checks.refused("load into a full bin", x, STATE, () -> x.load(1, 1, 80, 0));
    Checks.refused("one too many", x, STATE, () -> x.load(0, 987, 80, 0));
    Checks.same("just enough room", x.load(0, 986, 80, 0), 1);
    x.addBin(5000, true);
    x.load(2, 2000, 80, 0);
    Checks.same("greatest load", x.bushelsIn(2), 2000);
    int[][] wrong = {{0, 100, 0}, {2001, 100, 0}, {-1, 100, 0}, {1, 79, 0}, {1, 301, 0}, {1, 100, -1}, {1, 100, 101}};
    for (int[] w : wrong) {
      Checks.refused("load wrong", x, ARGUMENT, () -> x.load(2, w[0], w[1], w[2]));
      Checks.refused("load wrong into a full bin", x, ARGUMENT, () -> x.load(1, w[0], w[1], w[2]));
      Checks.refused("load wrong and no bin", x, INDEX, () -> x.load(3, w[0], w[1], w[2]));
    }
    Checks.refused("load without a bin", x, INDEX, () -> x.load(-1, 1, 100, 0));
  }

  private static void promise11() {
    Elevator x = filled();
    Checks.same("sell parts of two, oldest first", x.sell(0, 15), 10 * 500 + 5 * 480);
    Checks.same("what is left", Checks.written(x, 0), "15@150g2 30@170g3");
    Checks.same("sell parts of two, newest first", x.sell(1, 35), 30 * 450 + 5 * 480);
    Checks.same("what is left of the other", Checks.written(x, 1), "15@150g2 10@140g1");
    Checks.same("sell a whole layer", x.sell(0, 15), 15 * 480);
    Checks.same("one layer left", Checks.written(x, 0), "30@170g3");
    Checks.refused("sell too much", x, STATE, () -> x.sell(0, 31));
    Checks.same("sell all", x.sell(0, 30), 30 * 450);
    Checks.same("nothing left", x.layersIn(0), 0);
    Checks.refused("sell of nothing", x, STATE, () -> x.sell(0, 1));
    Checks.refused("sell(0 bushels)", x, ARGUMENT, () -> x.sell(0, 0));
    Checks.refused("sell(5001)", x, ARGUMENT, () -> x.sell(0, 5001));
    Checks.refused("sell(5000)", x, STATE, () -> x.sell(0, 5000));
    Checks.refused("sell without a bin", x, INDEX, () -> x.sell(2, 0));
    Checks.refused("sell bin -1", x, INDEX, () -> x.sell(-1, 1));
  }

  private static void promise12() {
    Elevator x = filled();
    Checks.same("transfer of parts", x.transfer(0, 1, 25), 2);
    Checks.same("source", Checks.written(x, 0), "5@150g2 30@170g3");
    Checks.same("target", Checks.written(x, 1), "15@150g2 10@140g1 30@170g3 20@150g2 10@140g1");
    Checks.same("foreign goes along", x.layerForeign(1, 0), 25);
    Checks.same("back", x.transfer(1, 0, 20), 2);
    Checks.same("source of the way back", Checks.written(x, 1), "5@140g1 30@170g3 20@150g2 10@140g1");
    Checks.same("target of the way back", Checks.written(x, 0), "5@150g2 30@170g3 15@150g2 5@140g1");
    Checks.same("no cash for it", x.cash(), -2L * (10 * 500 + 20 * 480 + 30 * 450));
    Checks.same("no trade for it", x.tradeCount(), 6);
    x.setRule(0, 1, 300, 100);
    x.transfer(0, 1, 1);
    Checks.same("the grade stays in a transfer", x.layerGrade(1, 0), 2);
    x.addBin(7, true);
    Checks.refused("no room", x, STATE, () -> x.transfer(0, 2, 8));
    Checks.same("just enough room", x.transfer(0, 2, 7), 2);
    Checks.refused("not so much", x, STATE, () -> x.transfer(2, 0, 8));
    Checks.same("all of it", x.transfer(2, 0, 7), 2);
    Checks.refused("the same bin", x, ARGUMENT, () -> x.transfer(0, 0, 1));
    Checks.refused("0 bushels", x, ARGUMENT, () -> x.transfer(0, 1, 0));
    Checks.refused("5001 bushels", x, ARGUMENT, () -> x.transfer(0, 1, 5001));
    Checks.refused("5000 bushels", x, STATE, () -> x.transfer(0, 1, 5000));
    Checks.refused("no first bin", x, INDEX, () -> x.transfer(3, 0, 0));
    Checks.refused("no other bin", x, INDEX, () -> x.transfer(0, 3, 0));
    Checks.refused("no bin, the same", x, INDEX, () -> x.transfer(-1, -1, 1));
  }

  private static void promise13() {
    Elevator x = filled();
    long before = x.cash();
    x.setSeason(1);
    x.setRule(1, 2, 149, 25);
    x.setRule(1, 1, 100, 9);
    Checks.same("dry", x.dry(0, 149), 1 + 1);
    Checks.same("dried", Checks.written(x, 0), "10@140g1 19@149g2 29@149g2");
    Checks.same("foreign stays", x.layerForeign(0, 2), 10);
    Checks.same("cost of it", x.cash(), before - 20 / 10 - 30 * 21 / 10);
    Checks.refused("no layer has a greater moisture", x, STATE, () -> x.dry(0, 149));
    x.load(0, 1, 300, 0);
    x.load(0, 1, 80, 0);
    Checks.same("a layer goes", x.dry(0, 299), 1);
    Checks.same("the newest is left", Checks.written(x, 0), "10@140g1 19@149g2 29@149g2 1@80g1");
    Checks.same("dry in the other order", x.dry(1, 80), 1 + 2 + 3);
    Checks.same("dried in the other order", Checks.written(x, 1), "27@80g2 18@80g2 9@80g2");
    Checks.refused("dry(79)", x, ARGUMENT, () -> x.dry(0, 79));
    Checks.refused("dry(301)", x, ARGUMENT, () -> x.dry(0, 301));
    Checks.refused("dry(300)", x, STATE, () -> x.dry(0, 300));
    Checks.refused("dry without a bin", x, INDEX, () -> x.dry(2, 79));
    Checks.refused("dry bin -1", x, INDEX, () -> x.dry(-1, 100));
    x.sell(0, 58);
    x.sell(0, 1);
    Checks.refused("dry an empty bin", x, STATE, () -> x.dry(0, 80));
    Elevator y = twoBins();
    y.load(1, 1, 300, 0);
    y.load(1, 3, 100, 0);
    y.load(1, 1, 300, 0);
    Checks.same("two layers go", y.dry(1, 200), 2);
    Checks.same("the one between is left", Checks.written(y, 1), "3@100g1");
  }

  private static void promise14() {
    Elevator x = twoBins();
    Checks.same("of an empty bin", x.dryingCost(0, 80), 0);
    x.load(0, 7, 150, 0);
    x.load(0, 7, 151, 0);
    x.load(0, 100, 120, 0);
    Checks.same("rounded down for each layer", x.dryingCost(0, 148), 14 / 10 + 21 / 10);
    Checks.same("of the wettest", x.dryingCost(0, 150), 0);
    Checks.same("of none", x.dryingCost(0, 151), 0);
    Checks.same("of all", x.dryingCost(0, 80), 49 + 49 + 400);
    Checks.same("nothing is dried", Checks.written(x, 0), "7@150g2 7@151g2 100@120g1");
    long before = x.cash();
    x.dry(0, 80);
    Checks.same("as dry pays", before - x.cash(), 498L);
    Checks.refused("dryingCost(79)", x, ARGUMENT, () -> x.dryingCost(0, 79));
    Checks.refused("dryingCost(301)", x, ARGUMENT, () -> x.dryingCost(0, 301));
    Checks.refused("dryingCost without a bin", x, INDEX, () -> x.dryingCost(2, 79));
    Checks.refused("dryingCost bin -1", x, INDEX, () -> x.dryingCost(-1, 100));
  }

  private static void promise15() {
    Elevator x = filled();
    Checks.same("after loads", x.bushelsIn(0), 60);
    x.sell(0, 1);
    Checks.same("after a sale", x.bushelsIn(0), 59);
    x.transfer(0, 1, 9);
    Checks.same("after a transfer", x.bushelsIn(0), 50);
    Checks.same("after a transfer, the other", x.bushelsIn(1), 69);
    x.dry(0, 149);
    Checks.same("after drying", x.bushelsIn(0), 48);
    Checks.refused("bushelsIn(2)", x, INDEX, () -> x.bushelsIn(2));
    Checks.refused("bushelsIn(-1)", x, INDEX, () -> x.bushelsIn(-1));
  }

  private static void promise16to21() {
    Elevator x = filled();
    x.sell(0, 3);
    x.sell(1, 3);
    Checks.same("layersIn(0)", x.layersIn(0), 3);
    Checks.same("layersIn(1)", x.layersIn(1), 3);
    int[][] inOrder = {{7, 140, 20, 1}, {20, 150, 25, 2}, {30, 170, 10, 3}};
    int[][] inOther = {{27, 170, 10, 3}, {20, 150, 25, 2}, {10, 140, 20, 1}};
    for (int i = 0; i < 3; i++) {
      layer(x, 0, i, inOrder[i]);
      layer(x, 1, i, inOther[i]);
    }
    int[][] wrong = {{0, 3}, {0, -1}, {1, 3}, {2, 0}, {-1, 0}, {0, Integer.MAX_VALUE}, {Integer.MIN_VALUE, 0}};
    for (int[] w : wrong) {
      Checks.refused("layerBushels wrong", x, INDEX, () -> x.layerBushels(w[0], w[1]));
      Checks.refused("layerAnew wrong", x, INDEX, () -> x.layerAnew(w[0], w[1]));
      Checks.refused("layerMoisture wrong", x, INDEX, () -> x.layerMoisture(w[0], w[1]));
      Checks.refused("layerForeign wrong", x, INDEX, () -> x.layerForeign(w[0], w[1]));
      Checks.refused("layerGrade wrong", x, INDEX, () -> x.layerGrade(w[0], w[1]));
    }
    Checks.refused("layersIn(2)", x, INDEX, () -> x.layersIn(2));
    Checks.refused("layersIn(-1)", x, INDEX, () -> x.layersIn(-1));
    x.sell(0, 57);
    Checks.same("layersIn of an emptied bin", x.layersIn(0), 0);
    Checks.refused("layerBushels of an emptied bin", x, INDEX, () -> x.layerBushels(0, 0));
    Checks.refused("layerAnew of an emptied bin", x, INDEX, () -> x.layerAnew(0, 0));
  }

  private static void layer(Elevator x, int bin, int index, int[] due) {
    Checks.same("layerBushels", x.layerBushels(bin, index), due[0]);
    Checks.same("layerAnew", x.layerAnew(bin, index), due[0]);
    Checks.same("layerMoisture", x.layerMoisture(bin, index), due[1]);
    Checks.same("layerForeign", x.layerForeign(bin, index), due[2]);
    Checks.same("layerGrade", x.layerGrade(bin, index), due[3]);
  }

  private static void promise22() {
    Elevator x = twoBins();
    x.load(0, 1, 100, 0);
    x.load(0, 2, 101, 0);
    Checks.same("meanMoisture", x.meanMoisture(0), 302.0 / 3.0);
    x.load(1, 3, 299, 0);
    Checks.same("meanMoisture of one layer", x.meanMoisture(1), 299.0);
    x.sell(1, 3);
    Checks.refused("meanMoisture of an empty bin", x, ARITHMETIC, () -> x.meanMoisture(1));
    Checks.refused("meanMoisture(2)", x, INDEX, () -> x.meanMoisture(2));
    Checks.refused("meanMoisture(-1)", x, INDEX, () -> x.meanMoisture(-1));
  }

  private static void promise23() {
    Elevator x = twoBins();
    Checks.refused("wetShare of nothing", x, ARITHMETIC, () -> x.wetShare(80));
    Checks.refused("wetShare(79) of nothing", x, ARGUMENT, () -> x.wetShare(79));
    x.load(0, 1, 100, 0);
    x.load(1, 2, 101, 0);
    x.load(1, 4, 300, 0);
    Checks.same("wetShare below all", x.wetShare(99), 1.0f);
    Checks.same("wetShare at the driest", x.wetShare(100), 6.0f / 7.0f);
    Checks.same("wetShare at the next", x.wetShare(101), 4.0f / 7.0f);
    Checks.same("wetShare(300)", x.wetShare(300), 0.0f);
    Checks.refused("wetShare(79)", x, ARGUMENT, () -> x.wetShare(79));
    Checks.refused("wetShare(301)", x, ARGUMENT, () -> x.wetShare(301));
    x.sell(0, 1);
    x.sell(1, 6);
    Checks.refused("wetShare of sold grain", x, ARITHMETIC, () -> x.wetShare(100));
  }

  private static void blend(Elevator x, int[] call, int cost, int share) {
    String what = "(" + call[0] + ", " + call[1] + ", " + call[2] + ", " + call[3] + ")";
    String before = Checks.stateOf(x);
    Checks.same("blendCost" + what, x.blendCost(call[0], call[1], call[2], call[3]), cost);
    Checks.same("blendCostByTrying" + what, x.blendCostByTrying(call[0], call[1], call[2], call[3]), cost);
    Checks.same("blendShare" + what, x.blendShare(call[0], call[1], call[2], call[3]), share);
    Checks.same("nothing changes by blends told", Checks.stateOf(x), before);
  }

  private static void noBlend(Elevator x, Class<? extends RuntimeException> kind, int... c) {
    Checks.refused("blendCost", x, kind, () -> x.blendCost(c[0], c[1], c[2], c[3]));
    Checks.refused("blendCostByTrying", x, kind, () -> x.blendCostByTrying(c[0], c[1], c[2], c[3]));
    Checks.refused("blendShare", x, kind, () -> x.blendShare(c[0], c[1], c[2], c[3]));
    Checks.refused("sellBlend", x, kind, () -> x.sellBlend(c[0], c[1], c[2], c[3]));
  }

  private static void promise24to26() {
    Elevator x = twoBins();
    x.load(0, 50, 180, 10);
    x.load(1, 30, 140, 35);
    x.load(1, 20, 130, 10);
    blend(x, new int[] {0, 1, 40, 155}, 20 * 380 + 20 * 500, 20);
    blend(x, new int[] {1, 0, 40, 155}, 20 * 380 + 20 * 500, 20);
    blend(x, new int[] {0, 1, 40, 300}, 40 * 380, 40);
    blend(x, new int[] {1, 0, 40, 300}, 40 * 380, 0);
    blend(x, new int[] {0, 1, 100, 300}, 50 * 380 + 20 * 500 + 30 * 450, 50);
    blend(x, new int[] {0, 1, 60, 300}, 50 * 380 + 10 * 500, 50);
    blend(x, new int[] {0, 1, 20, 130}, 20 * 500, 0);
    blend(x, new int[] {1, 0, 20, 130}, 20 * 500, 20);
    blend(x, new int[] {0, 1, 1, 300}, 380, 1);
    x.setPrice(1, 380);
    blend(x, new int[] {0, 1, 20, 300}, 20 * 380, 0);
    blend(x, new int[] {0, 1, 30, 300}, 30 * 380, 10);
    x.setPrice(1, 0);
    x.setPrice(3, 2000);
    blend(x, new int[] {1, 0, 30, 300}, 10 * 380, 20);
    Checks.refused("blend of 101", x, NONE, () -> x.blendCost(0, 1, 101, 300));
    x.setPrice(1, 379);
    x.setPrice(3, 2000);
    blend(x, new int[] {0, 1, 70, 300}, 50 * 380 + 20 * 379, 50);
    Elevator most = new Elevator();
    most.addBin(5000, true);
    most.addBin(5000, true);
    most.load(0, 500, 300, 0);
    blend(most, new int[] {0, 1, 500, 300}, 500 * 380, 500);
    blend(most, new int[] {1, 0, 500, 300}, 500 * 380, 0);
  }

  private static void promise24to26wrong() {
    Elevator x = filled();
    noBlend(x, NONE, 0, 1, 121, 300);
    noBlend(x, NONE, 0, 1, 500, 300);
    noBlend(x, NONE, 0, 1, 10, 139);
    noBlend(x, NONE, 0, 1, 11, 140);
    noBlend(x, INDEX, 0, 2, 10, 300);
    noBlend(x, INDEX, 2, 0, 10, 300);
    noBlend(x, INDEX, -1, -1, 10, 300);
    noBlend(x, INDEX, 0, 2, 0, 0);
    noBlend(x, ARGUMENT, 0, 0, 10, 300);
    noBlend(x, ARGUMENT, 0, 1, 0, 300);
    noBlend(x, ARGUMENT, 0, 1, 501, 300);
    noBlend(x, ARGUMENT, 0, 1, Integer.MIN_VALUE, 300);
    noBlend(x, ARGUMENT, 0, 1, 10, 79);
    noBlend(x, ARGUMENT, 0, 1, 10, 301);
    blend(x, new int[] {0, 1, 10, 140}, 10 * 500, 10);
    Elevator empty = twoBins();
    noBlend(empty, NONE, 0, 1, 1, 300);
  }

  private static void promise27() {
    Elevator x = twoBins();
    x.load(0, 50, 180, 10);
    x.load(1, 30, 140, 35);
    x.load(1, 20, 130, 10);
    long before = x.cash();
    Checks.same("sellBlend", x.sellBlend(0, 1, 40, 155), 40 * 480);
    Checks.same("cash of the blend", x.cash() - before, 40L * 480);
    Checks.same("what the first one keeps", Checks.written(x, 0), "30@180g4");
    Checks.same("what the other one keeps", Checks.written(x, 1), "30@140g3");
    Checks.same("one trade of all", x.tradeAt(3), -40);
    Checks.same("one event", x.eventCount(), 4);
    Checks.same("anew after a blend", x.layerAnew(0, 0), 30);

    Elevator up = twoBins();
    up.setPrice(1, 800);
    up.load(0, 1, 141, 21);
    up.load(1, 2, 140, 20);
    Checks.same("only the grade of all counts", up.sellBlend(0, 1, 3, 300), 3 * 480);
    up.load(0, 1, 142, 22);
    up.load(1, 1, 138, 18);
    Checks.same("at the edge of the grade", up.sellBlend(1, 0, 2, 140), 2 * 800);
    up.load(0, 1, 140, 21);
    up.load(1, 3, 140, 20);
    Checks.same("foreign matter is rounded up", up.sellBlend(1, 0, 4, 300), 4 * 480);
    up.load(0, 1, 141, 20);
    up.load(1, 3, 140, 20);
    Checks.same("moisture is rounded up", up.sellBlend(1, 0, 4, 300), 4 * 480);
    up.setSeason(1);
    up.setRule(1, 1, 80, 0);
    up.setRule(1, 2, 80, 0);
    up.load(1, 5, 140, 20);
    Checks.same("the rules of the present season", up.sellBlend(0, 1, 5, 300), 5 * 450);
    up.load(0, 5, 90, 0);
    Checks.same("all of it from the first one", up.sellBlend(0, 1, 5, 300), 5 * 450);
    Checks.same("all are sold", up.owned(), 0);
    Checks.same("consistent after blends", up.isConsistent(), true);
  }

  private static void promise28() {
    Elevator x = twoBins();
    Checks.same("setFutures first", x.setFutures(0), 500);
    Checks.same("setFutures again", x.setFutures(2000), 0);
    Checks.same("setFutures last", x.setFutures(700), 2000);
    Checks.refused("setFutures(-1)", x, ARGUMENT, () -> x.setFutures(-1));
    Checks.refused("setFutures(2001)", x, ARGUMENT, () -> x.setFutures(2001));
    Checks.same("the price stays after a wrong one", x.setFutures(700), 700);
    Checks.same("no gain without grain", x.gain(), 0L);
  }

  private static void promise29to32() {
    Elevator x = twoBins();
    Checks.refused("tradeAt(0) of none", x, INDEX, () -> x.tradeAt(0));
    x.load(0, 100, 300, 0);
    x.load(1, 50, 100, 0);
    x.sell(1, 20);
    x.transfer(0, 1, 10);
    x.dry(0, 80);
    x.sellBlend(0, 1, 5, 300);
    int lost = 90 - 90 * 700 / 920;
    int[] due = {100, 50, -20, -lost, -5};
    Checks.same("tradeCount", x.tradeCount(), 5);
    for (int i = 0; i < due.length; i++) {
      Checks.same("tradeAt " + i, x.tradeAt(i), due[i]);
    }
    Checks.same("hedged", x.hedged(), 125 - lost);
    Checks.same("owned", x.owned(), 125 - lost);
    Checks.same("owned is in both bins", x.bushelsIn(0) + x.bushelsIn(1), 125 - lost);
    Checks.refused("tradeAt(5)", x, INDEX, () -> x.tradeAt(5));
    Checks.refused("tradeAt(-1)", x, INDEX, () -> x.tradeAt(-1));
  }

  private static void promise33() {
    Elevator x = twoBins();
    x.setFutures(400);
    x.load(0, 100, 100, 0);
    Checks.same("no gain by a load", x.gain(), 0L);
    x.setFutures(430);
    Checks.same("a loss", x.gain(), -3000L);
    x.sell(0, 50);
    x.setFutures(330);
    Checks.same("a gain of what is hedged now", x.gain(), 2000L);
    x.setFutures(330);
    Checks.same("the same price", x.gain(), 2000L);
    Elevator big = new Elevator();
    for (int bin = 0; bin < 6; bin++) {
      big.addBin(5000, true);
      big.load(bin, 2000, 100, 0);
      big.load(bin, 2000, 100, 0);
      big.load(bin, 1000, 100, 0);
    }
    big.setFutures(2000);
    Checks.same("the greatest loss at once", big.gain(), -30000L * 1500);
    for (int i = 0; i < 20; i++) {
      big.sell(i % 6, 200);
      big.setFutures(0);
      big.load(i % 6, 200, 100, 0);
      big.setFutures(2000);
    }
    Checks.same("losses add up", big.gain(), -30000L * 1500 - 20L * 200 * 2000);
  }

  private static void promise34() {
    Elevator x = twoBins();
    x.load(0, 100, 200, 30);
    Checks.same("cash after a load", x.cash(), -38000L);
    x.dry(0, 140);
    Checks.same("cash after drying", x.cash(), -38600L);
    x.setPrice(2, 1000);
    x.sell(0, 13);
    Checks.same("cash after a sale", x.cash(), -25600L);
    x.transfer(0, 1, 30);
    Checks.same("cash after a transfer", x.cash(), -25600L);
    x.sellBlend(0, 1, 50, 300);
    Checks.same("cash after a blend", x.cash(), 24400L);
    x.setFutures(100);
    Checks.same("the gain is not cash", x.cash(), 24400L);
  }

  private static void promise35() {
    Elevator x = filled();
    long each = 10 * 500 + 20 * 480 + 30 * 450;
    Checks.same("worth", x.worth(), 2 * each);
    x.setPrice(3, 1);
    Checks.same("worth at a new price", x.worth(), 2 * each - 60 * 449);
    x.setRule(0, 1, 300, 100);
    Checks.same("worth by the grades of layers", x.worth(), 2 * each - 60 * 449);
    x.sell(0, 15);
    Checks.same("worth after a sale", x.worth(), 2 * each - 60 * 449 - 5000 - 5 * 480);
  }

  private static void promise36to37() {
    Elevator x = twoBins();
    Checks.refused("eventKind(0) of none", x, INDEX, () -> x.eventKind(0));
    x.load(0, 100, 150, 0);
    x.transfer(0, 1, 10);
    x.sell(0, 10);
    x.dry(0, 100);
    x.sellBlend(0, 1, 5, 300);
    String due = "ltsdb";
    for (int i = 0; i < 5; i++) {
      Checks.same("eventKind " + i, x.eventKind(i), due.charAt(i));
    }
    x.setSeason(1);
    x.setPrice(1, 1);
    x.setFutures(1);
    x.writeBin(0);
    Checks.outcomeOf(() -> x.sell(0, 5000));
    Checks.same("eventCount", x.eventCount(), 5);
    Checks.refused("eventKind(5)", x, INDEX, () -> x.eventKind(5));
    Checks.refused("eventKind(-1)", x, INDEX, () -> x.eventKind(-1));
  }

  private static void promise38() {
    Elevator x = filled();
    Checks.same("consistent after loads", x.isConsistent(), true);
    x.sell(0, 13);
    x.sell(1, 13);
    x.transfer(0, 1, 20);
    x.transfer(1, 0, 40);
    x.dry(0, 145);
    x.sellBlend(1, 0, 17, 300);
    x.setPrice(1, 0);
    x.setPrice(4, 2000);
    x.setSeason(3);
    x.setRule(3, 1, 300, 100);
    x.addBin(50, true);
    Checks.same("consistent after all kinds", x.isConsistent(), true);
    for (int bin = 0; bin < 3; bin++) {
      for (int i = 0; i < x.layersIn(bin); i++) {
        Checks.same("layerAnew is layerBushels", x.layerAnew(bin, i), x.layerBushels(bin, i));
      }
    }
    String before = Checks.stateOf(x);
    x.isConsistent();
    Checks.same("nothing changes by asking", Checks.stateOf(x), before);
  }

  private static void promise39() {
    Elevator x = twoBins();
    Checks.same("an empty bin", Checks.written(x, 0), "");
    x.load(0, 120, 155, 30);
    x.load(0, 30, 140, 20);
    Checks.same("the document's line", Checks.written(x, 0), "120@155g2 30@140g1");
    Checks.same("length", x.writeBin(0), 18);
    x.sell(0, 1);
    Checks.same("the line stays until it is written", Checks.lineOf(x), "120@155g2 30@140g1");
    Checks.refused("writeBin(2)", x, INDEX, () -> x.writeBin(2));
    Checks.refused("writeBin(-1)", x, INDEX, () -> x.writeBin(-1));
    x.load(1, 5, 99, 100);
    Checks.same("a shorter line in its place", Checks.written(x, 1), "5@99g4");
    Checks.same("an empty line in its place", x.sell(1, 5) - 5 * 380 + Checks.written(x, 1), "0");
    Elevator y = new Elevator();
    y.addBin(5000, false);
    StringBuilder due = new StringBuilder();
    for (int i = 0; i < 80; i++) {
      y.load(0, 10 + i, 200, 0);
      due.insert(0, (10 + i) + "@200g4" + (i == 0 ? "" : " "));
    }
    Checks.same("the longest bin", Checks.written(y, 0), due.toString());
  }

  private static void promise40() {
    Elevator x = twoBins();
    Checks.refused("lineAt(0) at first", x, INDEX, () -> x.lineAt(0));
    x.load(0, 7, 80, 0);
    Checks.refused("lineAt(0) before it is written", x, INDEX, () -> x.lineAt(0));
    x.writeBin(0);
    Checks.same("lineAt(0)", x.lineAt(0), '7');
    Checks.same("lineAt(1)", x.lineAt(1), '@');
    Checks.same("lineAt(4)", x.lineAt(4), 'g');
    Checks.same("lineAt(5)", x.lineAt(5), '1');
    Checks.refused("lineAt(6)", x, INDEX, () -> x.lineAt(6));
    Checks.refused("lineAt(-1)", x, INDEX, () -> x.lineAt(-1));
    Checks.refused("lineAt(greatest int)", x, INDEX, () -> x.lineAt(Integer.MAX_VALUE));
  }

  private static void lastEvent() {
    Elevator x = worn();
    Checks.same("80 events", x.eventCount(), 80);
    Checks.same("80 trades", x.tradeCount(), 80);
    Checks.same("the last trade", x.tradeAt(79), 2);
    Checks.refused("load after 80", x, STATE, () -> x.load(0, 1, 100, 0));
    Checks.refused("sell after 80", x, STATE, () -> x.sell(0, 1));
    Checks.refused("transfer after 80", x, STATE, () -> x.transfer(0, 1, 1));
    Checks.refused("dry after 80", x, STATE, () -> x.dry(0, 100));
    Checks.refused("sellBlend after 80", x, STATE, () -> x.sellBlend(0, 1, 1, 300));
    Checks.refused("no blend after 80", x, NONE, () -> x.sellBlend(0, 1, 1, 100));
    Checks.refused("no bin after 80", x, INDEX, () -> x.sell(2, 1));
    Checks.refused("wrong argument after 80", x, ARGUMENT, () -> x.load(0, 0, 100, 0));
    Checks.same("blendShare after 80", x.blendShare(0, 1, 100, 300), 20);
    Checks.same("setFutures after 80", x.setFutures(499), 500);
    Checks.same("gain after 80", x.gain(), 160L);
    Checks.same("consistent after 80", x.isConsistent(), true);
    allKindsUpToTheLast();
  }

  /** Each kind can be the eightieth event. */
  private static void allKindsUpToTheLast() {
    for (int kind = 0; kind < 5; kind++) {
      Elevator x = twoBins();
      for (int i = 0; i < 79; i++) {
        x.load(i % 2, 2, 150, 10);
      }
      int k = kind;
      String got = Checks.outcomeOf(() -> k == 0 ? x.load(0, 1, 100, 0) : k == 1 ? x.sell(0, 1)
          : k == 2 ? x.transfer(0, 1, 1) : k == 3 ? x.dry(0, 140) : x.sellBlend(0, 1, 1, 300));
      String[] due = {"1", "480", "1", "40", "480"};
      Checks.same("the eightieth, " + "lstdb".charAt(k), got, due[k]);
      Checks.same("its kind", x.eventKind(79), "lstdb".charAt(k));
    }
  }
}
