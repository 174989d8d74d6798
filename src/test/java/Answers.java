/** What the promises of the document answer and change, with the cases that they name. */
final class Answers extends Sentences {
  static void check() {
    ofBins();
    ofGrain();
    ofBlends();
    ofMoney();
    ofEventsAndLine();
  }

  private static void ofBins() {
    sentence(1, "Creates an elevator without bins.");
    Elevator x = new Elevator();
    due(x.binCount(), 0);
    thrown(() -> x.capacityOf(0), "IndexOutOfBoundsException");
    due(x.owned() + x.hedged() + x.tradeCount() + x.eventCount() + x.cash() + x.gain() + x.worth(), 0L);
    due(x.isConsistent(), true);
    sentence(2, "Adds an empty bin.");
    x.addBin(10, false);
    due(x.bushelsIn(0) + " " + x.layersIn(0) + " " + x.owned() + " " + x.writeBin(0), "0 0 0 0");
    x.load(0, 10, 100, 0);
    x.addBin(10, true);
    due(x.bushelsIn(1) + " " + x.layersIn(1) + " " + x.owned() + " " + x.writeBin(1), "0 0 10 0");
    due(x.isConsistent(), true);
    sentence(3, "Returns the number of bins.");
    due(x.binCount(), 2);
    for (int i = 0; i < 6; i++) {
      Checks.outcomeOf(() -> x.addBin(0, true));
      Checks.outcomeOf(() -> x.addBin(1, true));
    }
    due(x.binCount(), 6);
    sentence(5, "The grades of layers stay.");
    Elevator y = filled();
    y.setRule(0, 1, 80, 0);
    y.setRule(0, 2, 80, 0);
    y.setRule(0, 3, 300, 100);
    written(y, 0, "10@140g1 20@150g2 30@170g3");
    due(y.worth(), 2L * (10 * 500 + 20 * 480 + 30 * 450));
    sentence(6, "The grades of layers stay.");
    y.setRule(1, 1, 300, 100);
    y.setSeason(1);
    written(y, 1, "30@170g3 20@150g2 10@140g1");
    sentence(7, "Returns the grade, 1 to 4.");
    due(y.gradeFor(300, 100), 1);
    due(y.setSeason(2), 1);
    due(y.gradeFor(155, 30) + " " + y.gradeFor(175, 40) + " " + y.gradeFor(300, 100), "2 3 4");
    sentence(21, "Returns the grade, 1 to 4.");
    y.load(0, 1, 300, 0);
    due(y.layerGrade(0, 0) + " " + y.layerGrade(0, 1) + " " + y.layerGrade(0, 2) + " " + y.layerGrade(0, 3), "1 2 3 4");
  }

  private static void ofGrain() {
    sentence(10, "Buys a load at the price of its grade by the rules of the present season, and puts it into a bin as"
        + " a new layer.");
    Elevator x = bins(2);
    x.setRule(3, 3, 300, 100);
    x.setSeason(3);
    due(x.load(0, 2000, 300, 100), 3);
    due(x.cash(), -2000L * 450);
    sentence(12, "Returns the number of layers that come into the other bin.");
    due(x.transfer(0, 1, 1) + " " + x.transfer(0, 1, 1999) + " " + x.transfer(1, 0, 1999) + " " + x.transfer(1, 0, 1),
        "1 1 1 1");
    due(x.transfer(0, 1, 2000), 2);
    sentence(13, "Dries all layers of a bin whose moisture is greater than a wanted one.");
    Elevator dried = bins(1);
    dried.load(0, 10, 151, 0);
    dried.load(0, 10, 150, 0);
    dried.load(0, 10, 149, 0);
    dried.load(0, 10, 300, 0);
    due(dried.dry(0, 150), 1 + 2);
    written(dried, 0, "9@150g2 10@150g2 10@149g2 8@150g2");
    sentence(14, "Returns the cents, 0 if no layer has a greater moisture.");
    due(dried.dryingCost(0, 150) + " " + dried.dryingCost(0, 300) + " " + dried.dryingCost(0, 149), "0 0 1");
    due(bins(1).dryingCost(0, 80), 0);
    sentence(18, "Returns the same as layerBushels, by going through all events from the first one on.");
    dried.addBin(5000, false);
    dried.transfer(0, 1, 20);
    dried.setPrice(2, 0);
    dried.sellBlend(1, 0, 5, 300);
    dried.setPrice(2, 2000);
    dried.setSeason(1);
    dried.setRule(1, 1, 300, 100);
    dried.sell(1, 3);
    for (int bin = 0; bin < 2; bin++) {
      for (int i = 0; i < dried.seen().layersIn(bin); i++) {
        due(dried.layerAnew(bin, i), dried.seen().layerBushels(bin, i));
      }
    }
    due(dried.layerAnew(0, 0) + " " + dried.layerAnew(1, 0), "4 8");
    Elevator blended = bins(2);
    blended.load(0, 10, 100, 0);
    blended.load(1, 10, 300, 0);
    blended.sellBlend(0, 1, 4, 300);
    blended.setPrice(4, 2000);
    due(blended.layerAnew(0, 0) + " " + blended.layerAnew(1, 0) + " " + blended.isConsistent(), "10 6 true");
    shares();
  }

  private static void shares() {
    sentence(22, "Returns the sum, over all layers, of the bushels multiplied by the moisture, divided by all bushels"
        + " of the bin, both converted to double.");
    Elevator x = bins(2);
    x.load(0, 1, 100, 0);
    due(x.meanMoisture(0), 100.0);
    x.load(0, 2, 101, 0);
    due(x.meanMoisture(0), 302.0 / 3.0);
    x.load(0, 2000, 300, 0);
    due(x.meanMoisture(0), 600302.0 / 2003.0);
    sentence(23, "Returns the share of the bushels in all bins whose moisture is greater than a moisture.");
    x.load(1, 4, 99, 0);
    due(x.wetShare(98), 1.0f);
    due(x.wetShare(100), 2002.0f / 2007.0f);
    due(x.wetShare(101), 2000.0f / 2007.0f);
    due(x.wetShare(300), 0.0f);
    sentence(23, "Returns their number divided by the number of all bushels, both converted to float.");
    due(x.wetShare(99), 2003.0f / 2007.0f);
  }

  private static void ofBlends() {
    sentence(24, "Returns the least cost of a blend, by going on from one share to the next one.");
    Elevator x = bins(2);
    x.load(0, 10, 100, 0);
    x.load(0, 10, 300, 0);
    x.load(1, 10, 300, 0);
    x.load(1, 10, 100, 0);
    x.setPrice(1, 1);
    blend(x, "01", 20, 300, "20, 10");
    blend(x, "01", 19, 300, "19, 9");
    x.setPrice(1, 2000);
    blend(x, "01", 20, 300, "23800, 0");
    blend(x, "01", 25, 300, "33800, 5");
    sentence(26, "Returns how much of the good blend with the least cost comes from the first bin; of several, the"
        + " least.");
    Elevator same = bins(2);
    same.load(0, 10, 100, 0);
    same.load(1, 10, 100, 0);
    blend(same, "01", 10, 100, "5000, 0");
    blend(same, "01", 12, 100, "6000, 2");
    blend(same, "01", 20, 100, "10000, 10");
    same.load(0, 10, 180, 0);
    same.sell(0, 5);
    blend(same, "01", 10, 180, (5 * 500 + 5 * 380) + ", 10");
    blend(same, "01", 10, 139, (6 * 500 + 4 * 380) + ", 9");
    sentence(25, "Returns the same cost as blendCost, by letting each share flow out anew.");
    due(same.blendCostByTrying(0, 1, 10, 139), 6 * 500 + 4 * 380);
    sentence(27, "Lets the blend that blendShare tells flow out of both bins, first out of the first one, and sells"
        + " all of it at the price of the grade of the blend.");
    due(same.sellBlend(0, 1, 10, 139), 10 * 500);
    written(same, 0, "6@180g4");
    written(same, 1, "9@100g1");
    due(same.sellBlend(1, 0, 9, 100), 9 * 500);
    written(same, 0, "6@180g4");
    written(same, 1, "");
    due(same.sellBlend(1, 0, 6, 180), 6 * 380);
    due(same.owned(), 0);
    due(same.cash(), 10L * 500 + 9 * 500 + 6 * 380 + 5 * 500 - 20 * 500 - 10 * 380);
  }

  private static void ofMoney() {
    sentence(32, "Returns the bushels by which the hedge became greater, less than 0 if it became smaller.");
    Elevator x = bins(2);
    x.load(0, 2000, 100, 0);
    x.load(0, 2000, 200, 0);
    x.load(0, 1000, 200, 0);
    x.dry(0, 199);
    x.sell(0, 4994);
    due(trades(x), "2000 2000 1000 -5 -4994 of 1");
    sentence(33, "Returns the cents, which can be less than 0.");
    x.setFutures(2000);
    due(x.gain(), -1500L);
    x.setFutures(0);
    due(x.gain(), 500L);
    sentence(34, "Returns the cents, which can be less than 0.");
    Elevator y = bins(6);
    y.setPrice(1, 2000);
    for (int i = 0; i < 15; i++) {
      y.load(i % 6, 2000 - i / 12 * 1000, 80, 0);
    }
    due(y.cash(), -(12L * 2000 + 3 * 1000) * 2000);
    due(y.worth(), (12L * 2000 + 3 * 1000) * 2000);
    y.setPrice(1, 0);
    due(y.sell(0, 5000), 0);
    due(y.cash(), -(12L * 2000 + 3 * 1000) * 2000);
    due(y.worth(), 0L);
    y.setPrice(1, 2000);
    for (int round = 0; round < 20; round++) {
      y.sell(1, 2000);
      y.setPrice(1, 0);
      y.load(1, 2000, 80, 0);
      y.setPrice(1, 2000);
    }
    due(y.cash(), 20L * 2000 * 2000 - (12L * 2000 + 3 * 1000) * 2000);
  }

  private static void ofEventsAndLine() {
    sentence(37, "Returns 'l' for a load, 's' for a sale, 't' for a transfer, 'd' for a drying, 'b' for the sale of a"
        + " blend.");
    Elevator x = filled();
    x.sellBlend(0, 1, 2, 300);
    x.dry(0, 160);
    x.transfer(0, 1, 1);
    x.sell(0, 1);
    due("" + x.eventKind(5) + x.eventKind(6) + x.eventKind(7) + x.eventKind(8) + x.eventKind(9), "lbdts");
    sentence(38, "Returns whether as much is hedged as is owned, and for all layers of all bins, layerBushels and"
        + " layerAnew tell the same.");
    due(x.isConsistent(), true);
    due(new Elevator().isConsistent(), true);
    due(bins(6).isConsistent(), true);
    sentence(40, "Returns a character of the line, which is empty at first.");
    thrown(() -> x.lineAt(0), "IndexOutOfBoundsException");
    thrown(() -> new Elevator().lineAt(0), "IndexOutOfBoundsException");
    sentence(39, "Writes a bin to the line, in place of the line before: its layers in the order in which they flow"
        + " out, for each its bushels, \"@\", its moisture, \"g\" and its grade, with a blank between two layers; as"
        + " in \"120@155g2 30@140g1\".");
    Elevator y = bins(4);
    written(y, 0, "");
    y.load(0, 120, 155, 20);
    written(y, 0, "120@155g2");
    y.load(0, 30, 140, 20);
    y.load(1, 30, 140, 20);
    y.load(1, 120, 155, 20);
    y.load(2, 1, 80, 0);
    y.load(3, 2000, 300, 100);
    written(y, 0, "120@155g2 30@140g1");
    written(y, 1, "120@155g2 30@140g1");
    written(y, 2, "1@80g1");
    written(y, 3, "2000@300g4");
    sentence(39, "Returns the length of the line.");
    due(y.writeBin(0) + " " + y.writeBin(2) + " " + y.writeBin(3), "18 6 10");
    y.sell(2, 1);
    due(y.writeBin(2), 0);
    sentence(40, "Returns a character of the line, which is empty at first.");
    thrown(() -> y.lineAt(0), "IndexOutOfBoundsException");
    y.writeBin(3);
    due("" + y.lineAt(0) + y.lineAt(9), "24");
    thrown(() -> y.lineAt(10), "IndexOutOfBoundsException");
  }
}
