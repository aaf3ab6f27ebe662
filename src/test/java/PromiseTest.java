/** Each promise by runs whose answers were worked out by hand from the document. */
final class PromiseTest {
  private static final String INDEX = Check.INDEX;
  private static final String ARGUMENT = Check.ARGUMENT;
  private static final String STATE = Check.STATE;
  private static final int FAR_DOWN = Integer.MIN_VALUE;
  private static final int FAR_UP = Integer.MAX_VALUE;

  private final Check check = new Check();
  private HeavyHaul haul = new HeavyHaul();

  public static void main(String[] args) {
    PromiseTest test = new PromiseTest();
    test.promise1NewObject();
    test.promise2Bay();
    test.promise3Road();
    test.promise4Bridge();
    test.promise5Work();
    test.promise5WorksOfOneDrive();
    test.promise6Rig();
    test.promise7Load();
    test.promise8Axle();
    test.promise9Greatest();
    test.promise10GreatestAnew();
    test.promise11Authority();
    test.promise12Permit();
    test.promise13Embargo();
    test.promise14Why();
    test.promise14OrderOfReasons();
    test.promise15Drive();
    test.promise15Bridge();
    test.promise16Arrives();
    test.promise16Bounds();
    test.promise16LeavesOut();
    test.promise17RigIs();
    test.promise18Pass();
    test.promise18Breaches();
    test.check.close("PromiseTest");
  }

  // Short ways to ask the object at hand

  private void road(long want, int place, int other, int authority, int tens) {
    due("road " + place + " " + other, want,
        () -> haul.road(place, other, authority, 40, 40, 20, tens));
  }

  private void rig(long want, int place) {
    due("rig at " + place, want, () -> haul.rig(place, 2, 1, 20, 40, 40, 0));
  }

  private void due(String call, long want, Check.Call made) {
    check.due(call, want, made);
  }

  private void refused(String call, String exception, Check.Call made) {
    check.refused(call, exception, made);
  }

  private void why(long want, int rig, int road, int ten) {
    due("why " + rig + " " + road + " " + ten, want, () -> haul.why(rig, road, ten));
  }

  private void rigIs(long want, int rig, int what) {
    due("rigIs " + rig + " " + what, want, () -> haul.rigIs(rig, what));
  }

  private void arrives(long want, int rig, int from, int to, int ten) {
    due("arrives " + rig + " " + from + " " + to + " " + ten, want,
        () -> haul.arrives(rig, from, to, ten));
  }

  private void axles(int rig, long... want) {
    for (int axle = 0; axle < want.length; axle++) {
      int number = axle;
      due("axle " + rig + " " + number, want[axle], () -> haul.axle(rig, number));
    }
  }

  private void load(int rig, int weight, int centre) {
    due("load " + rig + " " + weight + " " + centre, 0, () -> loaded(rig, weight, centre));
  }

  private long loaded(int rig, int weight, int centre) {
    haul.load(rig, weight, centre);
    return 0;
  }

  private long authority(int authority, int notice, int most) {
    haul.authority(authority, notice, most);
    return 0;
  }

  private void permit(long want, int rig, int authority, int from, int to) {
    due("permit " + rig + " " + authority + " " + from + " " + to, want,
        () -> haul.permit(rig, authority, from, to));
  }

  private void pass(long want, int tens) {
    due("pass " + tens, want, () -> haul.pass(tens));
  }

  private void drive(long want, int rig, int road) {
    due("drive " + rig + " " + road, want, () -> haul.drive(rig, road));
  }

  private void noDrive(int rig, int road) {
    refused("drive " + rig + " " + road, STATE, () -> haul.drive(rig, road));
  }

  /** Lets so many tens pass, in as many calls as that takes. */
  private void passTo(int ten, int now) {
    for (int at = now; at < ten; at += 144) {
      haul.pass(Math.min(144, ten - at));
    }
  }

  // The promises

  private void promise1NewObject() {
    haul = new HeavyHaul();
    due("NONE", -1, () -> HeavyHaul.NONE);
    refused("bridge 0", INDEX, () -> Check.number(haul.bridge(0, 1, 1, 1)));
    refused("axle 0", INDEX, () -> haul.axle(0, 0));
    road(0, 0, 1, 0, 1);
    rig(0, 0);
    rigIs(-1, 0, 2);
    pass(1, 1);
    // Each object is by itself.
    HeavyHaul another = new HeavyHaul();
    due("pass of another object", 2, () -> another.pass(2));
    due("road of another object", 0, () -> another.road(0, 1, 0, 20, 20, 5, 1));
  }

  private void promise2Bay() {
    haul = new HeavyHaul();
    for (int each = 0; each < 10; each++) {
      int place = each;
      due("bay told", 0, () -> Check.number(haul.bay(place, true)));
      due("bay told again", 1, () -> Check.number(haul.bay(place, true)));
      due("bay told off", 1, () -> Check.number(haul.bay(place, false)));
      due("bay told off again", 0, () -> Check.number(haul.bay(place, false)));
    }
    for (int place : new int[] {-1, 10, FAR_DOWN, FAR_UP}) {
      refused("bay " + place, INDEX, () -> Check.number(haul.bay(place, true)));
    }
  }

  private void promise3Road() {
    haul = new HeavyHaul();
    due("least", 0, () -> haul.road(0, 9, 3, 20, 20, 5, 1));
    due("most", 1, () -> haul.road(9, 0, 0, 99, 99, 99, 9));
    refused("place", INDEX, () -> haul.road(-1, 1, 0, 40, 40, 20, 1));
    refused("place", INDEX, () -> haul.road(10, 1, 0, 40, 40, 20, 1));
    refused("other", INDEX, () -> haul.road(1, -1, 0, 40, 40, 20, 1));
    refused("other", INDEX, () -> haul.road(1, 10, 0, 40, 40, 20, 1));
    refused("authority", INDEX, () -> haul.road(1, 2, -1, 40, 40, 20, 1));
    refused("authority", INDEX, () -> haul.road(1, 2, 4, 40, 40, 20, 1));
    refused("authority ahead of places", INDEX, () -> haul.road(1, 1, 4, 40, 40, 20, 1));
    refused("both the same", ARGUMENT, () -> haul.road(1, 1, 0, 40, 40, 20, 1));
    refused("width", ARGUMENT, () -> haul.road(1, 2, 0, 19, 40, 20, 1));
    refused("width", ARGUMENT, () -> haul.road(1, 2, 0, 100, 40, 20, 1));
    refused("height", ARGUMENT, () -> haul.road(1, 2, 0, 40, 19, 20, 1));
    refused("height", ARGUMENT, () -> haul.road(1, 2, 0, 40, 100, 20, 1));
    refused("bends", ARGUMENT, () -> haul.road(1, 2, 0, 40, 40, 4, 1));
    refused("bends", ARGUMENT, () -> haul.road(1, 2, 0, 40, 40, 100, 1));
    refused("tens", ARGUMENT, () -> haul.road(1, 2, 0, 40, 40, 20, 0));
    refused("tens", ARGUMENT, () -> haul.road(1, 2, 0, 40, 40, 20, 10));
    for (int number = 2; number < 20; number++) {
      road(number, 1, 2, 0, 1);
    }
    refused("the 21st", STATE, () -> haul.road(1, 2, 0, 40, 40, 20, 1));
    refused("argument ahead of state", ARGUMENT, () -> haul.road(1, 1, 0, 40, 40, 20, 1));
    refused("index ahead of state", INDEX, () -> haul.road(1, 2, 4, 40, 40, 20, 1));
  }

  private void promise4Bridge() {
    haul = new HeavyHaul();
    road(0, 0, 1, 0, 1);
    road(1, 0, 1, 0, 1);
    haul.rig(0, 2, 1, 20, 40, 40, 100);
    refused("road", INDEX, () -> Check.number(haul.bridge(2, 10, 1, 1)));
    refused("road", INDEX, () -> Check.number(haul.bridge(-1, 0, 0, 0)));
    refused("span", ARGUMENT, () -> Check.number(haul.bridge(0, 0, 1, 1)));
    refused("span", ARGUMENT, () -> Check.number(haul.bridge(0, 41, 1, 1)));
    refused("weight", ARGUMENT, () -> Check.number(haul.bridge(0, 1, 0, 1)));
    refused("weight", ARGUMENT, () -> Check.number(haul.bridge(0, 1, 1000000, 1)));
    refused("moment", ARGUMENT, () -> Check.number(haul.bridge(0, 1, 1, 0)));
    refused("moment", ARGUMENT, () -> Check.number(haul.bridge(0, 1, 1, 10000000)));
    due("first bridge", 0, () -> Check.number(haul.bridge(0, 1, 1, 1)));
    due("in its place", 1, () -> Check.number(haul.bridge(0, 40, 999999, 9999999)));
    refused("refused in its place", ARGUMENT, () -> Check.number(haul.bridge(0, 1, 1, 0)));
    due("the last one told holds", 1950, () -> haul.greatest(0, 0, true));
    due("other road", 0, () -> Check.number(haul.bridge(1, 1, 1, 1)));
  }

  private void promise5Work() {
    haul = new HeavyHaul();
    road(0, 0, 1, 0, 2);
    refused("road", INDEX, () -> haul.work(1, 0, 0, 0, 1));
    refused("road", INDEX, () -> haul.work(-1, 0, 0, 0, 1));
    refused("wider", ARGUMENT, () -> haul.work(0, -1, 0, 0, 1));
    refused("wider", ARGUMENT, () -> haul.work(0, 51, 0, 0, 1));
    refused("higher", ARGUMENT, () -> haul.work(0, 0, -1, 0, 1));
    refused("higher", ARGUMENT, () -> haul.work(0, 0, 51, 0, 1));
    refused("from", ARGUMENT, () -> haul.work(0, 0, 0, -1, 1));
    refused("from", ARGUMENT, () -> haul.work(0, 0, 0, 9999, 9999));
    refused("from", ARGUMENT, () -> haul.work(0, 0, 0, FAR_UP, FAR_DOWN));
    refused("to", ARGUMENT, () -> haul.work(0, 0, 0, 5, 5));
    refused("to", ARGUMENT, () -> haul.work(0, 0, 0, 5, 10000));
    due("least", 1, () -> haul.work(0, 0, 0, 0, 1));
    due("most", 2, () -> haul.work(0, 50, 50, 9998, 9999));
    for (int count = 3; count <= 30; count++) {
      due("more works", count, () -> haul.work(0, 1, 1, 0, 9));
    }
    refused("the 31st", STATE, () -> haul.work(0, 1, 1, 0, 9));
    refused("argument ahead of state", ARGUMENT, () -> haul.work(0, 1, 1, 9, 9));
    refused("index ahead of state", INDEX, () -> haul.work(1, 1, 1, 0, 9));
  }

  private void promise5WorksOfOneDrive() {
    haul = new HeavyHaul();
    due("road", 0, () -> haul.road(0, 1, 0, 40, 40, 20, 2));
    due("other road", 1, () -> haul.road(0, 1, 0, 40, 40, 20, 2));
    due("rig", 0, () -> haul.rig(0, 2, 1, 20, 44, 43, 0));
    permit(1, 0, 0, 0, 900);
    why(1, 0, 0, 0);
    due("wider for some hours", 1, () -> haul.work(0, 4, 0, 4, 8));
    why(1, 0, 0, 3);
    why(2, 0, 0, 4);
    why(2, 0, 0, 6);
    why(1, 0, 0, 7);
    // The greatest counts, not the sum, and width and height each by itself.
    due("higher", 2, () -> haul.work(0, 2, 3, 5, 12));
    why(2, 0, 0, 4);
    why(0, 0, 0, 5);
    why(0, 0, 0, 6);
    why(1, 0, 0, 7);
    due("wider too", 3, () -> haul.work(0, 2, 2, 5, 12));
    why(1, 0, 0, 7);
    // Two works that hold one after the other do not make one that holds for all tens.
    due("the next hours", 4, () -> haul.work(0, 4, 3, 8, 12));
    why(1, 0, 0, 7);
    why(0, 0, 0, 8);
    why(0, 0, 0, 10);
    why(1, 0, 0, 11);
    // A work is of its road alone.
    why(1, 0, 1, 8);
  }

  private void promise6Rig() {
    haul = new HeavyHaul();
    due("least", 0, () -> haul.rig(0, 2, 1, 5, 20, 20, 0));
    due("most", 1, () -> haul.rig(9, 16, 5, 99, 99, 99, 99999));
    rigIs(0, 0, 0);
    rigIs(9, 1, 0);
    refused("place", INDEX, () -> haul.rig(-1, 2, 1, 20, 40, 40, 0));
    refused("place", INDEX, () -> haul.rig(10, 3, 1, 20, 40, 40, 0));
    for (int axles : new int[] {FAR_DOWN, -2, 0, 1, 3, 15, 17, 18, FAR_UP}) {
      refused("axles " + axles, ARGUMENT, () -> haul.rig(0, axles, 1, 20, 40, 40, 0));
    }
    refused("apart", ARGUMENT, () -> haul.rig(0, 2, 0, 20, 40, 40, 0));
    refused("apart", ARGUMENT, () -> haul.rig(0, 2, 6, 20, 40, 40, 0));
    refused("length", ARGUMENT, () -> haul.rig(0, 2, 1, 4, 40, 40, 0));
    refused("length", ARGUMENT, () -> haul.rig(0, 2, 1, 100, 40, 40, 0));
    refused("width", ARGUMENT, () -> haul.rig(0, 2, 1, 20, 19, 40, 0));
    refused("width", ARGUMENT, () -> haul.rig(0, 2, 1, 20, 100, 40, 0));
    refused("height", ARGUMENT, () -> haul.rig(0, 2, 1, 20, 40, 19, 0));
    refused("height", ARGUMENT, () -> haul.rig(0, 2, 1, 20, 40, 100, 0));
    refused("weight", ARGUMENT, () -> haul.rig(0, 2, 1, 20, 40, 40, -1));
    refused("weight", ARGUMENT, () -> haul.rig(0, 2, 1, 20, 40, 40, 100000));
    for (int number = 2; number < 6; number++) {
      rig(number, 3);
    }
    refused("the 7th", STATE, () -> haul.rig(0, 2, 1, 20, 40, 40, 0));
    refused("argument ahead of state", ARGUMENT, () -> haul.rig(0, 3, 1, 20, 40, 40, 0));
    refused("index ahead of state", INDEX, () -> haul.rig(10, 2, 1, 20, 40, 40, 0));
  }

  private void promise7Load() {
    haul = new HeavyHaul();
    road(0, 0, 1, 0, 2);
    refused("no rig", INDEX, () -> loaded(0, 0, 0));
    // The middles of the halves are 2 and 8 metres behind the axle 0.
    due("rig", 0, () -> haul.rig(0, 6, 2, 20, 40, 40, 0));
    refused("rig", INDEX, () -> loaded(1, -1, -1));
    refused("weight", ARGUMENT, () -> loaded(0, -1, 5));
    refused("weight", ARGUMENT, () -> loaded(0, 200001, 5));
    refused("centre", ARGUMENT, () -> loaded(0, 0, -1));
    refused("centre", ARGUMENT, () -> loaded(0, 0, 81));
    refused("ahead of the front middle", STATE, () -> loaded(0, 600, 1));
    refused("behind the rear middle", STATE, () -> loaded(0, 600, 9));
    axles(0, 0, 0, 0, 0, 0, 0);
    load(0, 600, 2);
    axles(0, 200, 200, 200, 0, 0, 0);
    load(0, 600, 8);
    axles(0, 0, 0, 0, 200, 200, 200);
    refused("refused changes nothing", STATE, () -> loaded(0, 1, 9));
    axles(0, 0, 0, 0, 200, 200, 200);
    // What the rear half bears is rounded down: 100 * 2 * (3 - 2) / 12 is 16 and some.
    load(0, 100, 3);
    axles(0, 28, 28, 28, 6, 6, 6);
    load(0, 0, 80);
    axles(0, 0, 0, 0, 0, 0, 0);
    load(0, 0, 0);
    load(0, 200000, 5);
    axles(0, 33334, 33334, 33334, 33334, 33334, 33334);
    // 4 axles, 1 apart: the front middle is at half a metre, so exact numbers tell.
    due("rig of halves", 1, () -> haul.rig(0, 4, 1, 20, 40, 40, 1));
    refused("a half ahead", STATE, () -> loaded(1, 1, 0));
    load(1, 1, 1);
    axles(1, 1, 1, 0, 0);
    load(1, 1, 2);
    axles(1, 1, 1, 0, 0);
    refused("a half behind", STATE, () -> loaded(1, 1, 3));
    permit(1, 0, 0, 0, 9);
    drive(2, 0, 0);
    refused("it drives", STATE, () -> loaded(0, 0, 0));
    refused("argument ahead of state", ARGUMENT, () -> loaded(0, 0, 81));
    axles(0, 33334, 33334, 33334, 33334, 33334, 33334);
    pass(2, 2);
    load(0, 0, 0);
    axles(0, 0, 0, 0, 0, 0, 0);
  }

  private void promise8Axle() {
    haul = new HeavyHaul();
    refused("no rig", INDEX, () -> haul.axle(0, 0));
    // Half of 7 is 3, and 3 among 2 is 2.
    due("rig", 0, () -> haul.rig(0, 4, 1, 20, 40, 40, 7));
    axles(0, 2, 2, 2, 2);
    // Both together are rounded up: 3 and 7 are 10 ahead, 3 and 2 are 5 behind.
    load(0, 9, 1);
    axles(0, 5, 5, 3, 3);
    for (int axle : new int[] {-1, 4, FAR_DOWN, FAR_UP}) {
      refused("axle " + axle, INDEX, () -> haul.axle(0, axle));
    }
    refused("rig", INDEX, () -> haul.axle(1, 0));
    refused("rig", INDEX, () -> haul.axle(-1, 0));
    due("heaviest rig", 1, () -> haul.rig(0, 2, 5, 20, 40, 40, 99999));
    load(1, 200000, 5);
    axles(1, 49999, 249999);
  }

  private void promise9Greatest() {
    haul = new HeavyHaul();
    road(0, 0, 1, 0, 1);
    due("rig", 0, () -> haul.rig(0, 4, 3, 20, 40, 40, 0));
    load(0, 280, 3);
    // 2 * (2 * 3 - 3) * 280 / (2 * 4 * 3) is 70 behind and 210 ahead.
    axles(0, 105, 105, 35, 35);
    due("no bridge", -1, () -> haul.greatest(0, 0, false));
    due("no bridge", -1, () -> haul.greatest(0, 0, true));
    due("bridge", 0, () -> Check.number(haul.bridge(0, 2, 1, 1)));
    due("one axle at once", 105, () -> haul.greatest(0, 0, false));
    due("one axle at once", 105, () -> haul.greatest(0, 0, true));
    due("bridge", 1, () -> Check.number(haul.bridge(0, 3, 1, 1)));
    due("two at both ends", 210, () -> haul.greatest(0, 0, false));
    due("one within", 105, () -> haul.greatest(0, 0, true));
    due("bridge", 1, () -> Check.number(haul.bridge(0, 6, 1, 1)));
    due("three at once", 245, () -> haul.greatest(0, 0, false));
    // Two at 1 and 4: 105 and 210; at 2 and 5, or 3 and 6: 315 as well.
    due("two within", 315, () -> haul.greatest(0, 0, true));
    due("bridge", 1, () -> Check.number(haul.bridge(0, 1, 1, 1)));
    due("the least span", 105, () -> haul.greatest(0, 0, false));
    due("the least span", 0, () -> haul.greatest(0, 0, true));
    due("bridge", 1, () -> Check.number(haul.bridge(0, 40, 1, 1)));
    due("all at once", 280, () -> haul.greatest(0, 0, false));
    // The axle 0 at 23: 105 * 17 and 105 * 20 and 35 * 17 and 35 * 14.
    due("all at once", 4970, () -> haul.greatest(0, 0, true));
    // With the front half empty, the greatest comes late: the third axle is 10 metres behind.
    due("rear rig", 1, () -> haul.rig(0, 4, 5, 20, 40, 40, 0));
    due("bridge", 1, () -> Check.number(haul.bridge(0, 2, 1, 1)));
    due("empty", 0, () -> haul.greatest(0, 1, false));
    due("empty", 0, () -> haul.greatest(0, 1, true));
    load(1, 80, 12);
    axles(1, 2, 2, 38, 38);
    due("the rear half", 38, () -> haul.greatest(0, 1, false));
    due("the rear half", 38, () -> haul.greatest(0, 1, true));
    due("the rear half anew", 38, () -> haul.greatestAnew(0, 1, false));
    due("two axles", 2, () -> haul.rig(0, 2, 5, 20, 40, 40, 0));
    load(2, 80, 5);
    due("the last axle alone", 80, () -> haul.greatest(0, 2, false));
    due("the last axle alone", 80, () -> haul.greatest(0, 2, true));
    refused("road", INDEX, () -> haul.greatest(1, 0, true));
    refused("road", INDEX, () -> haul.greatest(-1, 0, true));
    refused("rig", INDEX, () -> haul.greatest(0, 3, false));
    refused("rig", INDEX, () -> haul.greatest(0, -1, false));
  }

  private void promise10GreatestAnew() {
    haul = new HeavyHaul();
    road(0, 0, 1, 0, 1);
    due("rig", 0, () -> haul.rig(0, 4, 3, 20, 40, 40, 0));
    load(0, 280, 3);
    due("no bridge", -1, () -> haul.greatestAnew(0, 0, false));
    due("no bridge", -1, () -> haul.greatestAnew(0, 0, true));
    due("bridge", 0, () -> Check.number(haul.bridge(0, 40, 1, 1)));
    due("all at once", 280, () -> haul.greatestAnew(0, 0, false));
    due("all at once", 4970, () -> haul.greatestAnew(0, 0, true));
    for (int each = 1; each <= 40; each++) {
      int span = each;
      haul.bridge(0, span, 1, 1);
      due("weight anew on " + span, haul.greatest(0, 0, false),
          () -> haul.greatestAnew(0, 0, false));
      due("moment anew on " + span, haul.greatest(0, 0, true),
          () -> haul.greatestAnew(0, 0, true));
    }
    refused("road", INDEX, () -> haul.greatestAnew(1, 0, true));
    refused("road", INDEX, () -> haul.greatestAnew(-1, 0, true));
    refused("rig", INDEX, () -> haul.greatestAnew(0, 1, false));
    refused("rig", INDEX, () -> haul.greatestAnew(0, -1, false));
  }

  private void promise11Authority() {
    haul = new HeavyHaul();
    road(0, 0, 1, 2, 1);
    due("rig", 0, () -> haul.rig(0, 2, 1, 20, 40, 40, 20));
    permit(1, 0, 2, 0, 99);
    // The most weight is 99999 at first.
    load(0, 99990, 0);
    axles(0, 100000, 10);
    why(5, 0, 0, 0);
    load(0, 99989, 0);
    axles(0, 99999, 10);
    why(0, 0, 0, 0);
    refused("authority", INDEX, () -> authority(4, -1, 1));
    refused("authority", INDEX, () -> authority(-1, 0, 1));
    refused("notice", ARGUMENT, () -> authority(2, -1, 1));
    refused("notice", ARGUMENT, () -> authority(2, 1000, 1));
    refused("most", ARGUMENT, () -> authority(2, 5, 0));
    refused("most", ARGUMENT, () -> authority(2, 5, 100000));
    why(0, 0, 0, 0);
    permit(2, 0, 2, 0, 99);
    due("another one", 0, () -> authority(1, 9, 1));
    why(0, 0, 0, 0);
    permit(3, 0, 2, 0, 99);
    due("one less than the axle", 0, () -> authority(2, 0, 99998));
    why(5, 0, 0, 0);
    due("as much as the axle", 0, () -> authority(2, 999, 99999));
    why(0, 0, 0, 0);
    refused("the longest notice", STATE, () -> haul.permit(0, 2, 998, 1000));
    permit(4, 0, 2, 999, 1000);
    load(0, 99990, 0);
    why(5, 0, 0, 0);
    // The rear axle counts as well.
    load(0, 99990, 1);
    axles(0, 10, 100000);
    why(5, 0, 0, 0);
  }

  private void promise12Permit() {
    haul = new HeavyHaul();
    refused("no rig", INDEX, () -> haul.permit(0, 0, 0, 1));
    rig(0, 0);
    refused("rig", INDEX, () -> haul.permit(1, 0, 0, 0));
    refused("rig", INDEX, () -> haul.permit(-1, 0, 0, 1));
    refused("authority", INDEX, () -> haul.permit(0, 4, 0, 0));
    refused("authority", INDEX, () -> haul.permit(0, -1, 0, 1));
    refused("from", ARGUMENT, () -> haul.permit(0, 0, -1, 1));
    refused("from", ARGUMENT, () -> haul.permit(0, 0, 9999, 9999));
    refused("from", ARGUMENT, () -> haul.permit(0, 0, FAR_UP, FAR_DOWN));
    refused("to", ARGUMENT, () -> haul.permit(0, 0, 7, 7));
    refused("to", ARGUMENT, () -> haul.permit(0, 0, 7, 10000));
    permit(1, 0, 0, 0, 1);
    permit(2, 0, 3, 9998, 9999);
    pass(20, 20);
    refused("before now", STATE, () -> haul.permit(0, 0, 19, 40));
    permit(3, 0, 0, 20, 40);
    due("notice", 0, () -> authority(0, 15, 99999));
    refused("within the notice", STATE, () -> haul.permit(0, 0, 34, 40));
    permit(4, 0, 0, 35, 40);
    permit(5, 0, 1, 20, 40);
    for (int count = 6; count <= 40; count++) {
      permit(count, 0, 0, 35, 40);
    }
    refused("the 41st", STATE, () -> haul.permit(0, 0, 35, 40));
    refused("argument ahead of state", ARGUMENT, () -> haul.permit(0, 0, 35, 35));
    refused("index ahead of state", INDEX, () -> haul.permit(0, 4, 35, 40));
  }

  private void promise13Embargo() {
    haul = new HeavyHaul();
    refused("authority", INDEX, () -> haul.embargo(4, 0, 0));
    refused("authority", INDEX, () -> haul.embargo(-1, 0, 1));
    refused("from", ARGUMENT, () -> haul.embargo(0, -1, 1));
    refused("from", ARGUMENT, () -> haul.embargo(0, 9999, 9999));
    refused("from", ARGUMENT, () -> haul.embargo(0, FAR_UP, FAR_DOWN));
    refused("to", ARGUMENT, () -> haul.embargo(0, 7, 7));
    refused("to", ARGUMENT, () -> haul.embargo(0, 7, 10000));
    road(0, 0, 1, 3, 3);
    rig(0, 0);
    permit(1, 0, 3, 0, 99);
    due("of another authority", 1, () -> haul.embargo(0, 0, 9999));
    why(0, 0, 0, 7);
    due("embargo", 2, () -> haul.embargo(3, 10, 12));
    why(0, 0, 0, 7);
    why(7, 0, 0, 8);
    why(7, 0, 0, 11);
    why(0, 0, 0, 12);
    // A past ten can be told of too.
    pass(20, 20);
    due("behind now", 3, () -> haul.embargo(3, 12, 13));
    why(7, 0, 0, 12);
    for (int count = 4; count <= 20; count++) {
      due("more embargoes", count, () -> haul.embargo(0, 9998, 9999));
    }
    refused("the 21st", STATE, () -> haul.embargo(0, 0, 1));
    refused("argument ahead of state", ARGUMENT, () -> haul.embargo(0, 1, 1));
    refused("index ahead of state", INDEX, () -> haul.embargo(4, 0, 1));
  }

  private void promise14Why() {
    haul = new HeavyHaul();
    road(0, 0, 1, 0, 3);
    refused("no rig", INDEX, () -> haul.why(0, 0, 0));
    rig(0, 5);
    rig(1, 5);
    refused("rig", INDEX, () -> haul.why(2, 0, -1));
    refused("rig", INDEX, () -> haul.why(-1, 0, 0));
    refused("road", INDEX, () -> haul.why(0, 1, -1));
    refused("road", INDEX, () -> haul.why(0, -1, 0));
    refused("ten", ARGUMENT, () -> haul.why(0, 0, -1));
    refused("ten", ARGUMENT, () -> haul.why(0, 0, 10000));
    why(6, 0, 0, 9999);
    // No one permit: two that follow one another do not do, nor one of another rig or authority.
    permit(1, 0, 0, 0, 5);
    permit(2, 0, 0, 5, 12);
    permit(3, 1, 0, 0, 300);
    permit(4, 0, 1, 0, 300);
    why(0, 0, 0, 2);
    why(6, 0, 0, 3);
    why(6, 0, 0, 4);
    why(0, 0, 0, 5);
    why(0, 0, 0, 9);
    why(6, 0, 0, 10);
    permit(5, 0, 0, 3, 9999);
    why(0, 0, 0, 3);
    // Nights: the tens 0 to 35 of a day.
    why(0, 0, 0, 33);
    why(8, 0, 0, 34);
    why(8, 0, 0, 35);
    why(8, 0, 0, 36);
    why(8, 0, 0, 143);
    why(0, 0, 0, 144);
    why(0, 0, 0, 144 + 33);
    why(8, 0, 0, 144 + 34);
    why(8, 0, 0, 9996);
    why(6, 0, 0, 9997);
  }

  private void promise14OrderOfReasons() {
    haul = new HeavyHaul();
    due("road", 0, () -> haul.road(0, 1, 0, 30, 30, 30, 1));
    due("bridge", 0, () -> Check.number(haul.bridge(0, 10, 100, 500)));
    due("authority", 0, () -> authority(0, 0, 50));
    due("embargo", 1, () -> haul.embargo(0, 30, 100));
    due("all is so", 0, () -> haul.rig(0, 2, 2, 31, 31, 31, 104));
    due("as wide as it", 1, () -> haul.rig(0, 2, 2, 31, 30, 31, 104));
    due("as high as it", 2, () -> haul.rig(0, 2, 2, 31, 30, 30, 104));
    due("as long as it", 3, () -> haul.rig(0, 2, 2, 30, 30, 30, 104));
    due("as heavy as it", 4, () -> haul.rig(0, 2, 2, 30, 30, 30, 100));
    due("light", 5, () -> haul.rig(0, 2, 5, 30, 30, 30, 60));
    why(1, 0, 0, 50);
    why(2, 1, 0, 50);
    why(3, 2, 0, 50);
    why(4, 3, 0, 50);
    // The weight is 100 and the moment 5 * 50 and 3 * 50, which is 400.
    why(6, 4, 0, 50);
    due("the axle bears 50", 0, () -> authority(0, 0, 49));
    why(5, 4, 0, 50);
    due("its weight is above", 1, () -> Check.number(haul.bridge(0, 10, 99, 500)));
    why(4, 4, 0, 50);
    due("its moment is as much", 1, () -> Check.number(haul.bridge(0, 10, 100, 400)));
    why(5, 4, 0, 50);
    due("its moment is above", 1, () -> Check.number(haul.bridge(0, 10, 100, 399)));
    why(4, 4, 0, 50);
    why(6, 5, 0, 50);
    permit(1, 5, 0, 0, 200);
    why(7, 5, 0, 50);
    why(7, 5, 0, 30);
    why(8, 5, 0, 100);
    why(0, 5, 0, 29);
    why(0, 5, 0, 144);
  }

  private void promise15Drive() {
    haul = new HeavyHaul();
    road(0, 0, 1, 0, 2);
    road(1, 1, 2, 0, 3);
    rig(0, 0);
    rig(1, 1);
    rig(2, 0);
    refused("rig", INDEX, () -> haul.drive(3, 0));
    refused("rig", INDEX, () -> haul.drive(-1, 0));
    refused("road", INDEX, () -> haul.drive(0, 2));
    refused("road", INDEX, () -> haul.drive(0, -1));
    noDrive(0, 0);
    permit(1, 0, 0, 0, 200);
    permit(2, 1, 0, 0, 200);
    permit(3, 2, 0, 0, 200);
    noDrive(0, 1);
    rigIs(0, 0, 0);
    rigIs(0, 0, 4);
    drive(2, 0, 0);
    noDrive(0, 0);
    noDrive(0, 1);
    refused("index ahead of state", INDEX, () -> haul.drive(0, 2));
    // A road without a bridge is for all; gone both ways.
    drive(2, 1, 0);
    drive(2, 2, 0);
    pass(1, 1);
    noDrive(0, 1);
    pass(2, 1);
    rigIs(1, 0, 0);
    rigIs(0, 1, 0);
    rigIs(1, 2, 0);
    drive(5, 0, 1);
    noDrive(1, 1);
    drive(4, 1, 0);
    pass(34, 32);
    rigIs(2, 0, 0);
    rigIs(1, 1, 0);
    // It may not begin by day, nor so late that it ends by day.
    noDrive(0, 1);
    drive(36, 1, 0);
    pass(36, 2);
    rigIs(0, 1, 0);
    noDrive(1, 0);
    rigIs(3, 1, 4);
  }

  private void promise15Bridge() {
    haul = new HeavyHaul();
    road(0, 0, 1, 0, 3);
    road(1, 0, 1, 0, 3);
    due("bridge", 0, () -> Check.number(haul.bridge(0, 5, 10, 10)));
    for (int rig = 0; rig < 3; rig++) {
      rig(rig, rig == 1 ? 1 : 0);
      permit(rig + 1, rig, 0, 0, 200);
    }
    drive(3, 0, 0);
    why(0, 1, 0, 0);
    noDrive(1, 0);
    rigIs(1, 1, 0);
    rigIs(0, 1, 4);
    drive(3, 1, 1);
    pass(2, 2);
    noDrive(2, 0);
    pass(3, 1);
    drive(6, 2, 0);
    drive(6, 0, 1);
    // A bridge told while one is on its road counts as well.
    due("bridge", 0, () -> Check.number(haul.bridge(1, 5, 10, 10)));
    noDrive(1, 1);
    pass(6, 3);
    drive(9, 1, 1);
  }

  private void promise16Arrives() {
    haul = new HeavyHaul();
    refused("no rig", INDEX, () -> haul.arrives(0, 0, 1, 0));
    rig(0, 9);
    refused("rig", INDEX, () -> haul.arrives(1, 0, 1, -1));
    refused("rig", INDEX, () -> haul.arrives(-1, 0, 1, 0));
    refused("from", INDEX, () -> haul.arrives(0, 10, 1, -1));
    refused("from", INDEX, () -> haul.arrives(0, -1, 1, 0));
    refused("to", INDEX, () -> haul.arrives(0, 0, 10, -1));
    refused("to", INDEX, () -> haul.arrives(0, 0, -1, 0));
    refused("ten", ARGUMENT, () -> haul.arrives(0, 0, 1, -1));
    refused("ten", ARGUMENT, () -> haul.arrives(0, 0, 0, 10000));
    arrives(9999, 0, 3, 3, 9999);
    arrives(0, 0, 0, 0, 0);
    arrives(-1, 0, 0, 1, 0);
    road(0, 0, 1, 0, 9);
    road(1, 1, 2, 1, 9);
    road(2, 0, 3, 0, 2);
    road(3, 3, 1, 0, 2);
    arrives(-1, 0, 0, 1, 0);
    permit(1, 0, 0, 0, 9999);
    // Two short roads are sooner than a long one, both ways.
    arrives(4, 0, 0, 1, 0);
    arrives(4, 0, 1, 0, 0);
    arrives(-1, 0, 0, 2, 0);
    permit(2, 0, 1, 4, 30);
    arrives(13, 0, 0, 2, 0);
    arrives(30, 0, 0, 2, 17);
    arrives(-1, 0, 0, 2, 18);
    // Without a bay there is no waiting, but it can go to and fro till the embargo ends.
    due("embargo", 1, () -> haul.embargo(1, 4, 6));
    arrives(17, 0, 0, 2, 0);
    due("bay", 0, () -> Check.number(haul.bay(1, true)));
    arrives(15, 0, 0, 2, 0);
    due("bay off", 1, () -> Check.number(haul.bay(1, false)));
    due("bay at the first place", 0, () -> Check.number(haul.bay(0, true)));
    // It waits for 2 tens at the first place.
    arrives(15, 0, 0, 2, 0);
    due("bay off", 1, () -> Check.number(haul.bay(0, false)));
    due("embargo", 2, () -> haul.embargo(1, 6, 10));
    arrives(19, 0, 3, 2, 8);
    arrives(19, 0, 3, 2, 0);
    arrives(21, 0, 1, 2, 0);
  }

  private void promise16Bounds() {
    haul = new HeavyHaul();
    for (int place = 0; place < 4; place++) {
      road(place, place, place + 1, 0, 9);
    }
    road(4, 4, 5, 0, 1);
    road(5, 4, 6, 0, 9);
    rig(0, 0);
    permit(1, 0, 0, 0, 9999);
    arrives(36, 0, 0, 4, 0);
    arrives(-1, 0, 0, 4, 1);
    arrives(-1, 0, 0, 5, 0);
    haul.bay(4, true);
    arrives(145, 0, 0, 5, 0);
    arrives(153, 0, 0, 6, 0);
    // The whole of the next night and another one: what ends 288 tens behind does not count.
    haul.bay(0, true);
    arrives(180, 0, 0, 4, 1);
    arrives(-1, 0, 0, 5, 1);
    arrives(289, 0, 0, 5, 2);
    arrives(-1, 0, 0, 6, 9);
    arrives(297, 0, 0, 6, 10);
    // A wait may end 287 tens behind, no later.
    haul.bay(7, true);
    haul.road(7, 8, 1, 40, 40, 20, 1);
    permit(2, 0, 1, 288, 289);
    arrives(289, 0, 7, 8, 2);
    arrives(-1, 0, 7, 8, 1);
    // A permit never holds the last ten.
    permit(3, 0, 1, 9000, 9999);
    arrives(-1, 0, 7, 8, 9999);
    arrives(9793, 0, 7, 8, 9700);
    arrives(9828, 0, 7, 8, 9827);
    // The last night begins at 9936.
    arrives(9937, 0, 7, 8, 9828);
    arrives(9972, 0, 7, 8, 9971);
    arrives(-1, 0, 7, 8, 9972);
  }

  private void promise16LeavesOut() {
    haul = new HeavyHaul();
    road(0, 0, 1, 0, 3);
    due("bridge", 0, () -> Check.number(haul.bridge(0, 5, 10, 10)));
    rig(0, 0);
    rig(1, 0);
    permit(1, 0, 0, 0, 200);
    permit(2, 1, 0, 0, 200);
    drive(3, 0, 0);
    // Other rigs are left out, and where the rig itself is.
    arrives(3, 1, 0, 1, 0);
    arrives(3, 0, 0, 1, 0);
    arrives(12, 0, 1, 0, 9);
    // It goes by all that lets no drive begin.
    load(1, 40, 0);
    arrives(-1, 1, 0, 1, 0);
    load(1, 10, 0);
    arrives(-1, 1, 0, 1, 0);
    load(1, 5, 0);
    arrives(3, 1, 0, 1, 0);
    due("most", 0, () -> authority(0, 0, 4));
    arrives(-1, 1, 0, 1, 0);
    due("most", 0, () -> authority(0, 0, 5));
    arrives(3, 1, 0, 1, 0);
    due("too wide", 2, () -> haul.rig(0, 2, 1, 20, 41, 40, 0));
    due("too high", 3, () -> haul.rig(0, 2, 1, 20, 40, 41, 0));
    due("too long", 4, () -> haul.rig(0, 2, 1, 21, 40, 40, 0));
    permit(3, 2, 0, 0, 200);
    permit(4, 3, 0, 0, 200);
    permit(5, 4, 0, 0, 200);
    arrives(-1, 2, 0, 1, 0);
    arrives(-1, 3, 0, 1, 0);
    arrives(-1, 4, 0, 1, 0);
    haul.bay(0, true);
    due("work", 1, () -> haul.work(0, 1, 1, 10, 13));
    arrives(13, 2, 0, 1, 0);
    arrives(13, 3, 0, 1, 0);
    arrives(-1, 4, 0, 1, 0);
    arrives(-1, 2, 0, 1, 11);
    // The search changes nothing.
    arrives(3, 1, 0, 1, 0);
    rigIs(-1, 0, 0);
    rigIs(0, 1, 0);
    rigIs(0, 1, 4);
    pass(3, 3);
  }

  private void promise17RigIs() {
    haul = new HeavyHaul();
    refused("no rig", INDEX, () -> haul.rigIs(0, 0));
    road(0, 3, 4, 0, 1);
    road(1, 3, 4, 0, 2);
    rig(0, 3);
    refused("rig", INDEX, () -> haul.rigIs(1, 5));
    refused("rig", INDEX, () -> haul.rigIs(-1, 0));
    refused("what", ARGUMENT, () -> haul.rigIs(0, -1));
    refused("what", ARGUMENT, () -> haul.rigIs(0, 5));
    is(3, -1, -1, 0, 0);
    permit(1, 0, 0, 0, 300);
    drive(2, 0, 1);
    is(-1, 1, 2, 0, 1);
    pass(1, 1);
    is(-1, 1, 2, 0, 1);
    pass(2, 1);
    is(4, -1, 2, 0, 1);
    pass(38, 36);
    is(4, -1, 2, 2, 1);
    noDrive(0, 0);
    is(4, -1, 2, 2, 1);
    pass(150, 112);
    is(4, -1, 2, 108, 1);
    drive(151, 0, 0);
    is(-1, 0, 151, 108, 2);
    pass(160, 10);
    is(3, -1, 151, 108, 2);
  }

  private void is(long place, long road, long arrival, long breaches, long drives) {
    rigIs(place, 0, 0);
    rigIs(road, 0, 1);
    rigIs(arrival, 0, 2);
    rigIs(breaches, 0, 3);
    rigIs(drives, 0, 4);
  }

  private void promise18Pass() {
    haul = new HeavyHaul();
    for (int tens : new int[] {0, 145, -1, FAR_DOWN, FAR_UP}) {
      refused("pass " + tens, ARGUMENT, () -> haul.pass(tens));
    }
    pass(1, 1);
    pass(145, 144);
    passTo(9990, 145);
    refused("above the last ten", STATE, () -> haul.pass(10));
    refused("argument ahead of state", ARGUMENT, () -> haul.pass(145));
    pass(9999, 9);
    refused("behind the last ten", STATE, () -> haul.pass(1));
    refused("argument ahead of state", ARGUMENT, () -> haul.pass(0));
  }

  private void promise18Breaches() {
    haul = new HeavyHaul();
    road(0, 0, 1, 0, 9);
    rig(0, 0);
    rig(1, 2);
    permit(1, 0, 0, 0, 900);
    haul.bay(2, true);
    pass(27, 27);
    drive(36, 0, 0);
    // The ten 36 is the first by day, and the rig stands there at it.
    pass(36, 9);
    rigIs(0, 0, 3);
    pass(37, 1);
    rigIs(1, 0, 3);
    rigIs(0, 1, 3);
    pass(100, 63);
    rigIs(64, 0, 3);
    // A bay told now counts from now on, and none of a bay that is no more.
    haul.bay(1, true);
    haul.bay(2, false);
    pass(110, 10);
    rigIs(64, 0, 3);
    rigIs(10, 1, 3);
    haul.bay(1, false);
    haul.bay(2, true);
    pass(146, 36);
    rigIs(98, 0, 3);
    rigIs(10, 1, 3);
    // On its way it does no breach; it arrives while the tens pass.
    drive(155, 0, 0);
    pass(180, 34);
    rigIs(98, 0, 3);
    pass(190, 10);
    rigIs(108, 0, 3);
    refused("a call that throws", ARGUMENT, () -> haul.pass(145));
    rigIs(108, 0, 3);
    passTo(9999, 190);
    refused("a call that throws", STATE, () -> haul.pass(1));
    long atEnd = haul.rigIs(0, 3);
    refused("a call that throws", STATE, () -> haul.pass(144));
    rigIs(atEnd, 0, 3);
    // 69 days of 108 and 27 of the last one, less the 10 behind the bay that was told.
    rigIs(69 * 108 + 27 - 10, 0, 3);
  }
}
