import java.util.ArrayList;
import java.util.List;
import java.util.function.Function;

/**
 * The program as the tests call it. Each call is noted, so that another object can be brought to the same state and
 * be looked at in place of this one: so looking changes nothing, and no object is called oftener than the document
 * allows. Its methods bear the names of the face.
 */
public final class Elevator {
  private static final int MOST_CALLS = 512;

  private final GrainElevator program = new GrainElevator();
  private final List<Function<GrainElevator, ?>> calls = new ArrayList<>();
  private Elevator seen = null;

  /** A new object that has had the same calls. */
  public Elevator again() {
    Elevator other = new Elevator();
    for (Function<GrainElevator, ?> call : calls) {
      Checks.outcomeOf(() -> other.did(call));
    }
    return other;
  }

  /** An object that has had the same calls and can be asked, but for nothing that changes it. */
  public Elevator seen() {
    if (seen == null || seen.calls.size() >= MOST_CALLS) {
      seen = again();
    }
    return seen;
  }

  private <T> T did(Function<GrainElevator, T> call) {
    if (calls.size() >= MOST_CALLS) {
      throw new AssertionError("what later calls answer is free");
    }
    calls.add(call);
    seen = null;
    return call.apply(program);
  }

  public int addBin(int capacity, boolean isMassFlow) {
    return did(x -> x.addBin(capacity, isMassFlow));
  }

  public int binCount() {
    return did(GrainElevator::binCount);
  }

  public int capacityOf(int bin) {
    return did(x -> x.capacityOf(bin));
  }

  public int setRule(int season, int grade, int moisture, int foreign) {
    return did(x -> x.setRule(season, grade, moisture, foreign));
  }

  public int setSeason(int season) {
    return did(x -> x.setSeason(season));
  }

  public int gradeFor(int moisture, int foreign) {
    return did(x -> x.gradeFor(moisture, foreign));
  }

  public int setPrice(int grade, int cents) {
    return did(x -> x.setPrice(grade, cents));
  }

  public int priceOf(int grade) {
    return did(x -> x.priceOf(grade));
  }

  public int load(int bin, int bushels, int moisture, int foreign) {
    return did(x -> x.load(bin, bushels, moisture, foreign));
  }

  public int sell(int bin, int bushels) {
    return did(x -> x.sell(bin, bushels));
  }

  public int transfer(int from, int to, int bushels) {
    return did(x -> x.transfer(from, to, bushels));
  }

  public int dry(int bin, int moisture) {
    return did(x -> x.dry(bin, moisture));
  }

  public int dryingCost(int bin, int moisture) {
    return did(x -> x.dryingCost(bin, moisture));
  }

  public int bushelsIn(int bin) {
    return did(x -> x.bushelsIn(bin));
  }

  public int layersIn(int bin) {
    return did(x -> x.layersIn(bin));
  }

  public int layerBushels(int bin, int index) {
    return did(x -> x.layerBushels(bin, index));
  }

  public int layerAnew(int bin, int index) {
    return did(x -> x.layerAnew(bin, index));
  }

  public int layerMoisture(int bin, int index) {
    return did(x -> x.layerMoisture(bin, index));
  }

  public int layerForeign(int bin, int index) {
    return did(x -> x.layerForeign(bin, index));
  }

  public int layerGrade(int bin, int index) {
    return did(x -> x.layerGrade(bin, index));
  }

  public double meanMoisture(int bin) {
    return did(x -> x.meanMoisture(bin));
  }

  public float wetShare(int moisture) {
    return did(x -> x.wetShare(moisture));
  }

  public int blendCost(int one, int other, int bushels, int moisture) {
    return did(x -> x.blendCost(one, other, bushels, moisture));
  }

  public int blendCostByTrying(int one, int other, int bushels, int moisture) {
    return did(x -> x.blendCostByTrying(one, other, bushels, moisture));
  }

  public int blendShare(int one, int other, int bushels, int moisture) {
    return did(x -> x.blendShare(one, other, bushels, moisture));
  }

  public int sellBlend(int one, int other, int bushels, int moisture) {
    return did(x -> x.sellBlend(one, other, bushels, moisture));
  }

  public int setFutures(int cents) {
    return did(x -> x.setFutures(cents));
  }

  public int hedged() {
    return did(GrainElevator::hedged);
  }

  public int owned() {
    return did(GrainElevator::owned);
  }

  public int tradeCount() {
    return did(GrainElevator::tradeCount);
  }

  public int tradeAt(int trade) {
    return did(x -> x.tradeAt(trade));
  }

  public long gain() {
    return did(GrainElevator::gain);
  }

  public long cash() {
    return did(GrainElevator::cash);
  }

  public long worth() {
    return did(GrainElevator::worth);
  }

  public int eventCount() {
    return did(GrainElevator::eventCount);
  }

  public char eventKind(int event) {
    return did(x -> x.eventKind(event));
  }

  public boolean isConsistent() {
    return did(GrainElevator::isConsistent);
  }

  public int writeBin(int bin) {
    return did(x -> x.writeBin(bin));
  }

  public char lineAt(int index) {
    return did(x -> x.lineAt(index));
  }
}
