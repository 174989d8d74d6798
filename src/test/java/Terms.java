/** Each term of the document, with the cases that it names. */
final class Terms extends Sentences {
  static void check() {
    calls();
    grades();
    binsAndLayers();
    flowingOut();
    drying();
    driedLayers();
    events();
    blends();
    blendsSold();
    hedge();
  }

  private static void term(String words) {
    sentence(Document.TERMS, words);
  }

  /** The last one that counts is answered as the others are. */
  private static void calls() {
    term("An object is used for at most 512 calls after it has been made; what later calls answer is free.");
    Elevator x = bins(6);
    for (int i = 0; i < 79; i++) {
      x.load(i % 6, 10, 81 + i, 0);
    }
    for (int i = 6 + 79; i < 511; i++) {
      x.setFutures(i % 2 == 0 ? 400 : 600);
    }
    due(x.again().isConsistent(), true);
    due(x.again().setFutures(0), 400);
    due(x.again().gain(), (500L - 400) * 790);
    due(x.again().load(0, 10, 100, 0), 1);
    due(x.again().dry(0, 80), 14);
    due(x.again().tradeAt(78), 10);
    thrown(() -> x.again().sell(0, 141), "IllegalStateException");
    due(x.sell(0, 140), 100 * 500 + 30 * 480 + 10 * 450);
  }

  private static void grades() {
    Elevator x = new Elevator();
    term("Moisture and foreign matter of grain are told in thousandths.");
    x.addBin(10, true);
    x.load(0, 4, 141, 7);
    due(x.layerMoisture(0, 0), 141);
    due(x.layerForeign(0, 0), 7);
    term("There are the seasons 0 to 3, the present one is 0 at first.");
    due(x.setSeason(3), 0);
    due(x.setSeason(0), 3);
    thrown(() -> x.setSeason(4), "IllegalArgumentException");
    thrown(() -> x.setSeason(-1), "IllegalArgumentException");
    term("For each season there are rules for the grades 1, 2 and 3, each with a greatest moisture and a greatest"
        + " foreign matter; at first, these are 140 and 20 for the grade 1, 155 and 30 for the grade 2, and 175 and"
        + " 40 for the grade 3, in all seasons.");
    int[][] edges = {{140, 20, 1}, {141, 20, 2}, {140, 21, 2}, {155, 30, 2}, {156, 30, 3}, {155, 31, 3}, {175, 40, 3},
        {176, 40, 4}, {175, 41, 4}};
    for (int season = 0; season < 4; season++) {
      x.setSeason(season);
      for (int[] edge : edges) {
        due(x.gradeFor(edge[0], edge[1]), edge[2]);
      }
    }
    for (int season = 0; season < 4; season++) {
      due(x.setRule(season, 1, 80, 0) + " " + x.setRule(season, 2, 80, 0) + " " + x.setRule(season, 3, 80, 0),
          "140 155 175");
    }
    term("The prices of a bushel are 500, 480, 450 and 380 cents for the grades 1 to 4 at first.");
    due(x.priceOf(1) + " " + x.priceOf(2) + " " + x.priceOf(3) + " " + x.priceOf(4), "500 480 450 380");
    firstOfTheRules();
  }

  private static void firstOfTheRules() {
    term("The grade of grain is the first one of 1, 2 and 3 whose greatest moisture and greatest foreign matter are"
        + " not exceeded, and 4 if there is none.");
    Elevator x = bins(2);
    x.setRule(0, 1, 100, 50);
    x.setRule(0, 2, 90, 60);
    x.setRule(0, 3, 110, 10);
    int[][] rows = {{90, 10, 1}, {100, 50, 1}, {101, 10, 3}, {101, 11, 4}, {90, 51, 2}, {91, 51, 4}, {90, 60, 2},
        {90, 61, 4}, {110, 10, 3}, {111, 10, 4}, {110, 11, 4}, {80, 0, 1}, {300, 100, 4}};
    for (int[] row : rows) {
      due(x.gradeFor(row[0], row[1]), row[2]);
      due(x.load(0, 1, row[0], row[1]), row[2]);
    }
  }

  private static void binsAndLayers() {
    term("At most 6 bins are numbered from 0.");
    Elevator x = new Elevator();
    for (int bin = 0; bin < 6; bin++) {
      due(x.addBin(10 + bin, true), bin);
    }
    thrown(() -> x.addBin(10, true), "IllegalStateException");
    due(x.capacityOf(0) + " " + x.capacityOf(5) + " " + x.binCount(), "10 15 6");

    term("The grain in a bin consists of layers, each with bushels, a moisture, a foreign matter and a grade; a new"
        + " layer is the newest one of its bin.");
    Elevator y = filled();
    written(y, 0, "10@140g1 20@150g2 30@170g3");
    written(y, 1, "30@170g3 20@150g2 10@140g1");
    due(y.layerForeign(0, 1) + " " + y.layerForeign(1, 2), "25 20");
    y.transfer(0, 1, 10);
    y.load(1, 1, 80, 0);
    written(y, 1, "1@80g1 10@140g1 30@170g3 20@150g2 10@140g1");
    y.transfer(1, 0, 1);
    written(y, 0, "20@150g2 30@170g3 1@80g1");

    term("Layers are not joined.");
    Elevator same = bins(2);
    same.load(0, 5, 141, 20);
    same.load(0, 5, 141, 20);
    same.load(0, 5, 140, 20);
    written(same, 0, "5@141g2 5@141g2 5@140g1");
    same.transfer(0, 1, 2);
    same.transfer(0, 1, 2);
    written(same, 1, "2@141g2 2@141g2");
    same.transfer(1, 0, 4);
    written(same, 0, "1@141g2 5@141g2 5@140g1 2@141g2 2@141g2");
    same.load(0, 40, 145, 20);
    same.dry(0, 140);
    written(same, 0, "4@140g1 5@140g1 1@140g1 1@140g1 39@140g1");
    due(same.layersIn(0), 5);
  }

  private static void flowingOut() {
    term("In bins with mass flow, the oldest layer flows out first, in the others the newest one.");
    Elevator x = filled();
    due(x.sell(0, 1), 500);
    due(x.sell(1, 1), 450);
    due(x.layerMoisture(0, 0) + " " + x.layerMoisture(1, 0), "140 170");
    term("When some bushels flow out of a bin, they are taken from the layers in this order, a part of the last one"
        + " if it has more than is needed.");
    due(x.sell(0, 8), 8 * 500);
    written(x, 0, "1@140g1 20@150g2 30@170g3");
    due(x.sell(0, 1), 500);
    written(x, 0, "20@150g2 30@170g3");
    due(x.sell(0, 21), 20 * 480 + 450);
    written(x, 0, "29@170g3");
    due(x.sell(0, 29), 29 * 450);
    written(x, 0, "");
    due(x.sell(1, 48), 29 * 450 + 19 * 480);
    written(x, 1, "1@150g2 10@140g1");
    due(x.sell(1, 11), 480 + 10 * 500);
    written(x, 1, "");
    Elevator y = filled();
    y.setPrice(3, 100);
    due(y.blendCost(0, 1, 90, 300), 10 * 500 + 20 * 480 + 30 * 100 + 30 * 100);
    due(y.sellBlend(0, 1, 61, 300), 61 * 100);
    due(y.bushelsIn(0) + " " + y.bushelsIn(1), "29 30");
    moving();
    goingRound();
  }

  private static void moving() {
    term("In a transfer, each layer, or part of a layer, that flows out becomes a new layer of the other bin, one"
        + " after the other, with the same moisture, foreign matter and grade.");
    Elevator x = bins(4);
    for (int bin = 0; bin < 2; bin++) {
      x.load(bin, 10, 140, 20);
      x.load(bin, 20, 150, 25);
      x.load(bin, 30, 170, 10);
    }
    x.setRule(0, 1, 300, 100);
    x.setSeason(1);
    x.setRule(1, 3, 80, 0);
    due(x.transfer(0, 2, 31), 3);
    written(x, 0, "29@170g3");
    written(x, 2, "10@140g1 20@150g2 1@170g3");
    due(x.transfer(1, 3, 31), 2);
    written(x, 1, "19@150g2 10@140g1");
    written(x, 3, "1@150g2 30@170g3");
    due(x.transfer(2, 3, 30), 2);
    written(x, 3, "20@150g2 10@140g1 1@150g2 30@170g3");
    due(x.transfer(3, 2, 19), 1);
    written(x, 3, "1@150g2 10@140g1 1@150g2 30@170g3");
    written(x, 2, "1@170g3 19@150g2");
    due(x.layerForeign(2, 0) + " " + x.layerForeign(2, 1) + " " + x.layerForeign(3, 1), "10 25 20");
    long before = x.cash();
    due(x.transfer(3, 1, 1), 1);
    due(x.transfer(3, 1, 41), 3);
    due(x.cash(), before);
    written(x, 1, "30@170g3 1@150g2 10@140g1 1@150g2 19@150g2 10@140g1");
    written(x, 3, "");
    due(x.owned(), 120);
  }

  /** Far more layers pass through the bins than ever lie in them at once. */
  private static void goingRound() {
    Elevator x = bins(3);
    for (int i = 1; i <= 20; i++) {
      x.load(0, i, 100 + i, i);
    }
    for (int round = 0; round < 15; round++) {
      due(x.transfer(0, 2, 210), 20);
      due(x.transfer(2, 0, 210), 20);
    }
    due(x.transfer(0, 2, 100), 14);
    for (int i = 0; i < 13; i++) {
      due(x.layerBushels(2, i) + "@" + x.layerMoisture(2, i) + "f" + x.layerForeign(2, i),
          (i + 1) + "@" + (101 + i) + "f" + (i + 1));
    }
    due(x.layerBushels(2, 13) + " " + x.layerBushels(0, 0) + " " + x.layerBushels(0, 6), "9 5 20");
    due(x.isConsistent(), true);
  }

  private static void drying() {
    term("A layer with a moisture m that is greater than the wanted moisture w keeps its bushels multiplied by (1000"
        + " - m) and divided by (1000 - w), rounded down; the others are lost.");
    int[][] rows = {{9, 200, 100, 8}, {10, 200, 100, 8}, {18, 200, 100, 16}, {17, 200, 100, 15}, {2000, 300, 80, 1521},
        {1, 81, 80, 0}, {2, 81, 80, 1}, {920, 81, 80, 919}, {919, 81, 80, 918}, {921, 81, 80, 919}, {2, 300, 80, 1},
        {700, 300, 299, 699}, {701, 300, 299, 700}};
    for (int[] row : rows) {
      Elevator x = bins(1);
      x.load(0, row[0], row[1], 0);
      due(x.dry(0, row[2]), row[0] - row[3]);
      due(x.bushelsIn(0), row[3]);
      due(x.owned(), row[3]);
    }
    Elevator each = bins(2);
    each.load(1, 10, 200, 0);
    each.load(1, 10, 199, 0);
    each.load(1, 10, 100, 0);
    due(each.dry(1, 100), 2 + 2);
    written(each, 1, "10@100g1 8@100g1 8@100g1");

    term("Drying such a layer costs, in cents, its bushels before, multiplied by m - w and divided by 10, rounded"
        + " down.");
    int[][] costs = {{1, 89, 80, 0}, {1, 90, 80, 1}, {3, 83, 80, 0}, {3, 84, 80, 1}, {19, 81, 80, 1}, {20, 81, 80, 2},
        {2000, 300, 80, 44000}, {7, 300, 299, 0}};
    for (int[] row : costs) {
      Elevator x = bins(1);
      x.load(0, row[0], row[1], 0);
      long before = x.cash();
      due(x.dryingCost(0, row[2]), row[3]);
      x.dry(0, row[2]);
      due(before - x.cash(), (long) row[3]);
    }
    Elevator two = bins(1);
    two.load(0, 7, 87, 0);
    two.load(0, 8, 87, 0);
    two.load(0, 1000, 80, 0);
    due(two.dryingCost(0, 80), 4 + 5);
    long before = two.cash();
    two.dry(0, 80);
    due(before - two.cash(), 9L);
  }

  private static void driedLayers() {
    term("Its moisture becomes w, and its grade becomes the one by the rules of the present season.");
    Elevator x = bins(2);
    for (int bin = 0; bin < 2; bin++) {
      x.load(bin, 100, 200, 10);
      x.load(bin, 100, 200, 30);
      x.load(bin, 100, 200, 50);
    }
    x.setRule(1, 2, 140, 30);
    x.dry(0, 141);
    written(x, 0, "93@141g2 93@141g2 93@141g4");
    x.setSeason(1);
    x.dry(1, 141);
    written(x, 1, "93@141g4 93@141g3 93@141g3");
    x.dry(1, 140);
    written(x, 1, "92@140g4 92@140g2 92@140g1");
    due(x.layerForeign(1, 0) + " " + x.layerForeign(1, 1) + " " + x.layerForeign(1, 2), "50 30 10");

    term("The other layers stay as they are.");
    Elevator y = filled();
    y.setRule(0, 1, 300, 100);
    y.dry(0, 150);
    written(y, 0, "10@140g1 20@150g2 29@150g1");
    y.dry(1, 149);
    written(y, 1, "29@149g1 19@149g1 10@140g1");
    y.setRule(0, 1, 80, 0);
    y.dry(0, 149);
    written(y, 0, "10@140g1 19@149g2 28@149g2");

    term("A layer without bushels is gone.");
    Elevator z = bins(2);
    for (int bin = 0; bin < 2; bin++) {
      z.load(bin, 1, 200, 0);
      z.load(bin, 5, 100, 0);
      z.load(bin, 1, 200, 0);
      z.load(bin, 2, 300, 0);
      z.load(bin, 1, 150, 0);
      due(z.dry(bin, 150), 3);
      due(z.layersIn(bin), 3);
      due(z.bushelsIn(bin), 7);
    }
    written(z, 0, "5@100g1 1@150g2 1@150g2");
    written(z, 1, "1@150g2 1@150g2 5@100g1");
    due(z.layerAnew(0, 0) + " " + z.layerAnew(1, 2), "5 5");
    z.sell(0, 5);
    due(z.layersIn(0) + " " + z.layerMoisture(0, 0), "2 150");
    due(z.transfer(1, 0, 1), 1);
    written(z, 1, "1@150g2 5@100g1");
    z.sellBlend(1, 0, 6, 150);
    written(z, 0, "");
    written(z, 1, "3@100g1");
    z.load(0, 1, 81, 0);
    z.load(0, 1, 300, 0);
    due(z.dry(0, 80), 2);
    due(z.layersIn(0) + " " + z.bushelsIn(0), "0 0");
    written(z, 0, "");
    goneForAllAnswers();
  }

  /** Nothing of the layers that are gone, nor of what the others were before, comes back. */
  private static void goneForAllAnswers() {
    for (int bin = 0; bin < 2; bin++) {
      int b = bin;
      Elevator x = bins(2);
      x.load(b, 1, 300, 100);
      x.load(b, 5, 300, 90);
      due(x.dry(b, 299), 2);
      written(x, b, "4@299g4");
      due(x.wetShare(299) + " " + x.dryingCost(b, 299), "0.0 0");
      thrown(() -> x.dry(b, 299), "IllegalStateException");
      due(x.meanMoisture(b), 299.0);
      due(x.worth(), 4L * 380);
      blend(x, "01", 4, 299, 4 * 380 + ", " + (b == 0 ? 4 : 0));
      thrown(() -> x.blendCost(0, 1, 5, 300), "NoSuchElementException");
      due(x.dryingCost(b, 280), 4 * 19 / 10);
      due(x.dry(b, 280), 1);
      written(x, b, "3@280g4");
      due(x.isConsistent(), true);
      x.load(b, 2, 100, 0);
      due(x.wetShare(200), 3.0f / 5.0f);
      due(x.transfer(b, 1 - b, 5), 2);
      due(x.sell(1 - b, 5), 3 * 380 + 2 * 500);
    }
  }

  private static void events() {
    term("Each successful call of load, sell, transfer, dry and sellBlend is an event.");
    Elevator x = bins(2);
    due(x.eventCount(), 0);
    x.load(0, 100, 200, 0);
    due(x.eventCount(), 1);
    x.sell(0, 10);
    due(x.eventCount(), 2);
    x.transfer(0, 1, 10);
    due(x.eventCount(), 3);
    x.dry(0, 199);
    due(x.eventCount(), 4);
    x.sellBlend(0, 1, 10, 200);
    due(x.eventCount(), 5);
    due("" + x.eventKind(0) + x.eventKind(1) + x.eventKind(2) + x.eventKind(3) + x.eventKind(4), "lstdb");
    thrown(() -> x.load(0, 1, 301, 0), "IllegalArgumentException");
    thrown(() -> x.sell(0, 500), "IllegalStateException");
    thrown(() -> x.transfer(0, 1, 500), "IllegalStateException");
    thrown(() -> x.dry(0, 300), "IllegalStateException");
    thrown(() -> x.sellBlend(0, 1, 10, 80), "NoSuchElementException");
    x.addBin(1, true);
    x.setRule(0, 1, 100, 0);
    x.setSeason(1);
    x.setPrice(1, 1);
    x.setFutures(1);
    x.writeBin(0);
    x.dryingCost(0, 80);
    x.blendCost(0, 1, 10, 300);
    x.blendCostByTrying(0, 1, 10, 300);
    x.blendShare(0, 1, 10, 300);
    x.isConsistent();
    x.layerAnew(0, 0);
    due(x.eventCount(), 5);

    term("There are at most 80 events.");
    for (int i = 5; i < 80; i++) {
      x.load(1, 1, 100, 0);
    }
    due(x.eventCount(), 80);
    thrown(() -> x.load(1, 1, 100, 0), "IllegalStateException");
    thrown(() -> x.sell(1, 1), "IllegalStateException");
    thrown(() -> x.transfer(1, 0, 1), "IllegalStateException");
    thrown(() -> x.dry(1, 80), "IllegalStateException");
    thrown(() -> x.sellBlend(0, 1, 1, 300), "IllegalStateException");
    due(x.eventCount(), 80);
    due(x.eventKind(79), 'l');
    due(x.tradeCount(), 79);
    due(x.isConsistent(), true);
    eightyLoads();
  }

  /** More layers and trades there can't be. */
  private static void eightyLoads() {
    for (int bin = 0; bin < 2; bin++) {
      Elevator x = bins(2);
      for (int i = 0; i < 80; i++) {
        x.load(bin, 1 + i % 50, 80 + i, 0);
      }
      due(x.layersIn(bin) + " " + x.tradeCount() + " " + x.tradeAt(79) + " " + x.isConsistent(), "80 80 30 true");
      for (int i = 0; i < 80; i++) {
        int age = bin == 0 ? i : 79 - i;
        due(x.layerBushels(bin, i) + "@" + x.layerMoisture(bin, i), (1 + age % 50) + "@" + (80 + age));
        due(x.layerAnew(bin, i), 1 + age % 50);
      }
      thrown(() -> x.tradeAt(80), "IndexOutOfBoundsException");
      thrown(() -> x.eventKind(80), "IndexOutOfBoundsException");
    }
  }

  private static void blends() {
    String none = "throws.NoSuchElementException, throws.NoSuchElementException";
    term("A blend of two bins has some bushels, of which a share of 0 or more flows out of the first bin, and the"
        + " others out of the other one.");
    Elevator x = bins(3);
    x.load(0, 40, 100, 0);
    blend(x, "10", 40, 100, "20000, 0");
    blend(x, "01", 40, 100, "20000, 40");
    blend(x, "12", 1, 300, none);
    x.load(1, 40, 180, 0);
    blend(x, "01", 80, 300, "35200, 40");
    blend(x, "01", 20, 300, "7600, 0");
    blend(x, "10", 20, 300, "7600, 20");

    term("It is good if both bins have so much, and the sum, over all its parts, of the bushels multiplied by the"
        + " moisture is at most the greatest moisture multiplied by all its bushels.");
    blend(x, "01", 81, 300, none);
    blend(x, "01", 41, 300, (500 + 40 * 380) + ", 1");
    blend(x, "01", 79, 300, (39 * 500 + 40 * 380) + ", 39");
    blend(x, "01", 80, 140, "35200, 40");
    blend(x, "01", 80, 139, none);
    blend(x, "01", 40, 100, "20000, 40");
    blend(x, "01", 41, 100, none);
    blend(x, "01", 41, 101, none);
    blend(x, "01", 41, 102, (40 * 500 + 380) + ", 40");
    blend(x, "01", 40, 99, none);
    blend(x, "01", 2, 140, "880, 1");
    blend(x, "01", 2, 139, "1000, 2");
    blend(x, "10", 3, 154, "1260, 2");
    blend(x, "10", 3, 153, "1380, 1");
    x.load(0, 40, 200, 0);
    blend(x, "01", 80, 150, "35200, 40");
    blend(x, "10", 80, 150, "35200, 0");
    blend(x, "10", 80, 149, "35200, 4");
    blend(x, "01", 120, 160, (40 * 500 + 80 * 380) + ", 80");
    blend(x, "01", 120, 159, none);

    term("Its cost is the sum, over all its parts, of the bushels multiplied by the price of their grade.");
    Elevator y = filled();
    blend(y, "01", 120, 300, 2 * (10 * 500 + 20 * 480 + 30 * 450) + ", 60");
    blend(y, "01", 61, 300, (10 * 500 + 20 * 480 + 31 * 450) + ", 31");
    blend(y, "01", 31, 300, (30 * 450 + 480) + ", 0");
    y.setPrice(1, 0);
    blend(y, "01", 31, 300, (21 * 450) + ", 10");
    y.setSeason(2);
    y.setRule(2, 1, 300, 100);
    blend(y, "10", 31, 300, (21 * 450) + ", 21");
    y.setPrice(3, 2000);
    y.setPrice(2, 2000);
    blend(y, "10", 40, 300, "60000, 0");
    blend(y, "01", 40, 300, "60000, 10");
  }

  private static void blendsSold() {
    term("The moisture of a blend is the sum of the bushels multiplied by the moisture, divided by all its bushels,"
        + " rounded up; its foreign matter is found in the same way; its grade is that of both by the rules of the"
        + " present season.");
    sold(new int[] {1, 141, 20}, new int[] {1, 139, 20}, 500);
    sold(new int[] {1, 141, 20}, new int[] {2, 140, 20}, 480);
    sold(new int[] {1, 141, 20}, new int[] {499, 140, 20}, 480);
    sold(new int[] {2, 139, 20}, new int[] {1, 142, 20}, 500);
    sold(new int[] {1, 100, 21}, new int[] {1, 100, 19}, 500);
    sold(new int[] {1, 100, 21}, new int[] {2, 100, 20}, 480);
    sold(new int[] {499, 100, 20}, new int[] {1, 100, 21}, 480);
    sold(new int[] {1, 156, 30}, new int[] {3, 155, 30}, 450);
    sold(new int[] {1, 155, 31}, new int[] {3, 155, 30}, 450);
    sold(new int[] {1, 176, 40}, new int[] {1, 175, 40}, 380);
    sold(new int[] {1, 175, 41}, new int[] {1, 175, 40}, 380);
    sold(new int[] {1, 175, 41}, new int[] {1, 175, 39}, 450);
    sold(new int[] {1, 300, 100}, new int[] {1, 80, 0}, 380);
    sold(new int[] {1, 80, 0}, new int[] {3, 80, 0}, 500);
    soldInParts();
    Elevator x = bins(2);
    x.load(0, 4, 100, 0);
    x.load(1, 4, 300, 100);
    x.setRule(3, 1, 200, 50);
    x.setSeason(3);
    due(x.sellBlend(0, 1, 8, 300), 8 * 500);
  }

  /** All the parts count, those that flow out first and the part of a layer that flows out last. */
  private static void soldInParts() {
    Elevator x = bins(2);
    x.load(0, 3, 100, 40);
    x.load(0, 5, 180, 10);
    x.load(1, 9, 100, 0);
    x.load(1, 2, 140, 41);
    x.load(1, 1, 200, 12);
    // 2380 / 18 is more than 132, and 264 / 18 is more than 14.
    int[][] rules = {{133, 15, 500}, {132, 15, 480}, {133, 14, 480}};
    for (int[] rule : rules) {
      Elevator y = x.again();
      y.setRule(0, 1, rule[0], rule[1]);
      due(y.sellBlend(0, 1, 18, 133), 18 * rule[2]);
      written(y, 0, "");
      written(y, 1, "2@100g1");
    }
  }

  private static void sold(int[] one, int[] other, int cents) {
    Elevator x = bins(2);
    x.load(0, one[0], one[1], one[2]);
    x.load(1, other[0], other[1], other[2]);
    int all = one[0] + other[0];
    due(x.sellBlend(0, 1, all, 300), all * cents);
  }

  private static void hedge() {
    term("As many bushels are hedged as are in all bins: after each event, if these numbers differ, the hedge makes"
        + " one trade of the difference.");
    Elevator x = bins(3);
    due(trades(x), "of 0");
    x.load(0, 100, 200, 0);
    due(trades(x), "100 of 100");
    x.load(1, 1, 200, 0);
    due(trades(x), "100 1 of 101");
    x.transfer(0, 1, 50);
    x.transfer(1, 0, 51);
    due(trades(x), "100 1 of 101");
    x.sell(0, 1);
    due(trades(x), "100 1 -1 of 100");
    x.dry(0, 100);
    due(trades(x), "100 1 -1 -13 of 87");
    x.load(1, 10, 100, 0);
    x.sellBlend(0, 1, 20, 300);
    due(trades(x), "100 1 -1 -13 10 -20 of 77");
    thrown(() -> x.sell(0, 5000), "IllegalStateException");
    x.setFutures(1);
    x.addBin(5000, true);
    due(trades(x), "100 1 -1 -13 10 -20 of 77");
    x.sell(0, x.seen().bushelsIn(0));
    due(x.hedged(), x.seen().owned());

    term("The price of the futures is 500 at first.");
    Elevator y = bins(2);
    due(y.setFutures(500), 500);
    due(y.again().setFutures(7), 500);

    term("When the price of the futures changes, the gain increases by the hedged bushels multiplied by the price"
        + " before minus the new price.");
    y.setFutures(100);
    due(y.gain(), 0L);
    y.load(0, 10, 100, 0);
    due(y.gain(), 0L);
    y.setFutures(100);
    due(y.gain(), 0L);
    y.setFutures(99);
    due(y.gain(), 10L);
    y.setFutures(101);
    due(y.gain(), -10L);
    y.transfer(0, 1, 10);
    y.sell(1, 9);
    y.setFutures(0);
    due(y.gain(), 91L);
    y.sell(1, 1);
    y.setFutures(2000);
    due(y.gain(), 91L);
  }
}
