import com.sun.management.ThreadMXBean;
import java.lang.management.ManagementFactory;

/** The dearest calls, as many of each as an object has left, stay far inside the room that a run has. */
public final class RoomTest {
  // The room is some 600,000 objects and 7.3 million elements; an eighth of the elements, 4 bytes each.
  private static final long MOST_BYTES = 7_300_000L / 8 * 4;

  private interface Part {
    void call(GrainElevator x);
  }

  public static void main(String[] args) {
    ofMany("making an object", x -> full());
    ofMany("blendCost", x -> x.blendCost(0, 1, 80, 300));
    ofMany("blendCostByTrying", x -> x.blendCostByTrying(0, 1, 80, 300));
    ofMany("blendShare", x -> x.blendShare(0, 1, 80, 300));
    ofMany("layerAnew", x -> x.layerAnew(0, 0));
    ofMany("isConsistent", x -> x.isConsistent());
    ofMany("writeBin", x -> x.writeBin(0));
    ofMany("worth", x -> x.worth());
    ofMany("meanMoisture", x -> x.meanMoisture(0));
    ofMany("wetShare", x -> x.wetShare(100));
    ofMany("dryingCost", x -> x.dryingCost(0, 80));
    Checks.finish("RoomTest");
  }

  /** 80 events: many layers that have been moved to and fro. */
  private static GrainElevator full() {
    GrainElevator x = new GrainElevator();
    for (int bin = 0; bin < 6; bin++) {
      x.addBin(5000, bin % 2 == 0);
    }
    for (int i = 0; i < 60; i++) {
      x.load(i % 2, 2, 100 + i, i);
    }
    for (int i = 0; i < 20; i++) {
      x.transfer(i % 2, 1 - i % 2, 41);
    }
    return x;
  }

  private static void ofMany(String what, Part part) {
    GrainElevator x = full();
    ThreadMXBean thread = (ThreadMXBean) ManagementFactory.getThreadMXBean();
    // Making it takes 86 calls, and the first one may make what is used again.
    int calls = what.startsWith("making") ? 1 : 512 - 86 - 1;
    part.call(x);
    long before = thread.getCurrentThreadAllocatedBytes();
    for (int i = 0; i < calls; i++) {
      part.call(x);
    }
    long bytes = thread.getCurrentThreadAllocatedBytes() - before;
    Checks.same(what + " takes " + bytes + " bytes, too many", bytes > MOST_BYTES, false);
  }
}
