import java.lang.management.ManagementFactory;

/**
 * All calls of one run live in one room, and each has an end: an object that is told all that it
 * may be told, and then asked the dearest calls till its 512th, makes next to nothing.
 */
final class RoomTest {
  private static final int CALLS = 512;
  // The room holds 7.3 million fields and elements; a run of the dearest calls needs some 2,000.
  private static final long MOST_BYTES = 100_000;

  private final Check check = new Check();
  private int calls;

  public static void main(String[] args) {
    RoomTest test = new RoomTest();
    // The first run is not measured: the machine itself makes objects when a call is new to it.
    test.dearestRun();
    long before = allocated();
    test.dearestRun();
    long made = allocated() - before;
    test.check.same("the room of a run of the dearest calls", "within " + MOST_BYTES + " bytes",
        made <= MOST_BYTES ? "within " + MOST_BYTES + " bytes" : made + " bytes");
    test.check.due("calls of a run", CALLS, () -> test.calls);
    test.check.close("RoomTest");
  }

  private static long allocated() {
    return ((com.sun.management.ThreadMXBean) ManagementFactory.getThreadMXBean())
        .getThreadAllocatedBytes(Thread.currentThread().getId());
  }

  private void dearestRun() {
    HeavyHaul haul = new HeavyHaul();
    calls = 0;
    tellAll(haul);
    int rig = 0;
    while (calls < CALLS) {
      // No road leads to the place 9, so the whole search is gone through.
      expect(-1, haul.arrives(rig % 6, 0, 9, 0));
      rig++;
    }
  }

  /** As many of each as there may be, the roads all with a bridge, the places all with a bay. */
  private void tellAll(HeavyHaul haul) {
    for (int place = 0; place < 10; place++) {
      expect(0, Check.number(haul.bay(place, true)));
    }
    for (int road = 0; road < 20; road++) {
      expect(road, haul.road(road % 9, (road + 1) % 9, 0, 40, 40, 20, 1));
      expect(0, Check.number(haul.bridge(road, 40, 999999, 9999999)));
    }
    for (int count = 1; count <= 30; count++) {
      expect(count, haul.work(count % 20, 1, 1, 0, 9999));
    }
    for (int rig = 0; rig < 6; rig++) {
      expect(rig, haul.rig(0, 16, 5, 20, 40, 40, 1000));
    }
    for (int count = 1; count <= 40; count++) {
      expect(count, haul.permit(count % 6, 0, 0, 9999));
    }
    for (int count = 1; count <= 20; count++) {
      expect(count, haul.embargo(1, 0, 9999));
    }
  }

  private void expect(long want, long got) {
    calls++;
    if (want != got) {
      check.due("call " + calls, want, () -> got);
    }
  }
}
