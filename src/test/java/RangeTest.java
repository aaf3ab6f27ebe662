import java.util.Arrays;
import java.util.List;

/**
 * Each argument of each call: the least and the greatest value that it may have, and the ones just
 * beyond them and far off; which exception is thrown if several apply, by every way to have each
 * argument right, too small or too large; and that a refused call changes nothing.
 */
final class RangeTest {
  interface Made {
    long by(HeavyHaul haul, int[] a);
  }

  interface Story {
    void tellTo(HeavyHaul haul);
  }

  /** One argument: a value that does, the least and the greatest one, and whether it numbers. */
  record Argument(String name, boolean isIndex, int usual, int least, int most) {}

  /** One method of the face, and the states in which its usual arguments are refused. */
  record Method(String name, Made call, List<Story> states, Argument... arguments) {}

  private static final Argument PLACE = index("place", 2, 9);
  private static final Argument OTHER = index("other", 3, 9);
  private static final Argument AUTHORITY = index("authority", 0, 3);
  private static final Argument ROAD = index("road", 0, 2);
  private static final Argument RIG = index("rig", 0, 1);
  // A stretch of tens from 500 to 600: what from may be with that to, and to with that from.
  private static final Argument FROM = in("from", 500, 0, 599);
  private static final Argument TO = in("to", 600, 501, 9999);
  private static final Argument TEN = in("ten", 0, 0, 9999);

  private static final List<Method> METHODS = List.of(
      new Method("bay", (haul, a) -> Check.number(haul.bay(a[0], true)), List.of(), PLACE),
      new Method("road", (haul, a) -> haul.road(a[0], a[1], a[2], a[3], a[4], a[5], a[6]),
          List.of(RangeTest::tellAllRoads), PLACE, OTHER, AUTHORITY,
          in("width", 40, 20, 99), in("height", 40, 20, 99), in("bends", 20, 5, 99),
          in("tens", 2, 1, 9)),
      new Method("bridge", (haul, a) -> Check.number(haul.bridge(a[0], a[1], a[2], a[3])),
          List.of(), ROAD, in("span", 10, 1, 40), in("weight", 500, 1, 999999),
          in("moment", 500, 1, 9999999)),
      new Method("work", (haul, a) -> haul.work(a[0], a[1], a[2], a[3], a[4]),
          List.of(RangeTest::tellAllWorks), ROAD, in("wider", 5, 0, 50),
          in("higher", 5, 0, 50), FROM, TO),
      new Method("rig", (haul, a) -> haul.rig(a[0], a[1], a[2], a[3], a[4], a[5], a[6]),
          List.of(RangeTest::tellAllRigs), PLACE, in("axles", 4, 2, 16), in("apart", 2, 1, 5),
          in("length", 20, 5, 99), in("width", 40, 20, 99), in("height", 40, 20, 99),
          in("weight", 100, 0, 99999)),
      new Method("load", (haul, a) -> loaded(haul, a[0], a[1], a[2]),
          List.of(RangeTest::letDrive), RIG, in("weight", 500, 0, 200000), in("centre", 2, 0, 80)),
      new Method("axle", (haul, a) -> haul.axle(a[0], a[1]), List.of(), RIG, index("axle", 0, 3)),
      new Method("greatest", (haul, a) -> haul.greatest(a[0], a[1], true), List.of(), ROAD, RIG),
      new Method("greatestAnew", (haul, a) -> haul.greatestAnew(a[0], a[1], false), List.of(),
          ROAD, RIG),
      new Method("authority", (haul, a) -> set(haul, a[0], a[1], a[2]), List.of(),
          AUTHORITY, in("notice", 5, 0, 999), in("most", 500, 1, 99999)),
      new Method("permit", (haul, a) -> haul.permit(a[0], a[1], a[2], a[3]),
          List.of(RangeTest::tellAllPermits, haul -> set(haul, 0, 501, 99999)),
          RIG, AUTHORITY, FROM, TO),
      new Method("embargo", (haul, a) -> haul.embargo(a[0], a[1], a[2]),
          List.of(RangeTest::tellAllEmbargoes), AUTHORITY, FROM, TO),
      new Method("why", (haul, a) -> haul.why(a[0], a[1], a[2]), List.of(), RIG, ROAD, TEN),
      new Method("drive", (haul, a) -> haul.drive(a[0], a[1]),
          List.of(RangeTest::letDrive, RangeTest::letDriveAway, haul -> haul.embargo(0, 0, 1),
              RangeTest::letAnotherCross),
          RIG, ROAD),
      new Method("arrives", (haul, a) -> haul.arrives(a[0], a[1], a[2], a[3]), List.of(),
          RIG, PLACE, OTHER, TEN),
      new Method("rigIs", (haul, a) -> haul.rigIs(a[0], a[1]), List.of(),
          RIG, in("what", 0, 0, 4)),
      new Method("pass", (haul, a) -> haul.pass(a[0]), List.of(RangeTest::passToEnd),
          in("tens", 1, 1, 144)));

  private final Check check = new Check();

  public static void main(String[] args) {
    RangeTest test = new RangeTest();
    for (Method method : METHODS) {
      test.leastAndMost(method);
      test.oneBeyondAndFarOff(method);
      test.inEveryWay(method);
      test.noneThereYet(method);
    }
    test.axlesAreEven();
    test.bothPlacesTheSame();
    test.toIsBehindFrom();
    test.axleIsOfItsRig();
    test.endOfTimeIsReached();
    test.check.close("RangeTest");
  }

  private static Argument index(String name, int usual, int most) {
    return new Argument(name, true, usual, 0, most);
  }

  private static Argument in(String name, int usual, int least, int most) {
    return new Argument(name, false, usual, least, most);
  }

  // What an object has been told

  /** Three roads, two with a bridge, and two rigs; the rig 0 may drive on the road 0 now. */
  private static HeavyHaul world() {
    HeavyHaul haul = new HeavyHaul();
    haul.road(0, 1, 0, 40, 40, 20, 2);
    haul.road(1, 2, 1, 50, 45, 30, 3);
    haul.road(2, 0, 2, 50, 45, 30, 3);
    haul.bridge(1, 10, 40000, 200000);
    haul.bridge(2, 9, 999999, 9999999);
    haul.rig(0, 4, 2, 18, 40, 40, 8000);
    haul.rig(2, 4, 1, 20, 40, 40, 100);
    haul.load(0, 20000, 3);
    haul.permit(0, 0, 0, 100);
    haul.permit(1, 1, 5, 100);
    haul.permit(0, 1, 2, 50);
    haul.permit(1, 2, 0, 100);
    haul.work(0, 5, 0, 10, 20);
    haul.embargo(1, 20, 25);
    haul.authority(1, 5, 50000);
    haul.bay(1, true);
    return haul;
  }

  private static long loaded(HeavyHaul haul, int rig, int weight, int centre) {
    haul.load(rig, weight, centre);
    return 0;
  }

  private static long set(HeavyHaul haul, int authority, int notice, int most) {
    haul.authority(authority, notice, most);
    return 0;
  }

  private static void tellAllRoads(HeavyHaul haul) {
    for (int road = 3; road < 20; road++) {
      haul.road(4, 5, 3, 40, 40, 20, 1);
    }
  }

  private static void tellAllWorks(HeavyHaul haul) {
    for (int work = 1; work < 30; work++) {
      haul.work(1, 1, 1, 5, 9);
    }
  }

  private static void tellAllRigs(HeavyHaul haul) {
    for (int rig = 2; rig < 6; rig++) {
      haul.rig(7, 2, 1, 20, 40, 40, 0);
    }
  }

  private static void tellAllPermits(HeavyHaul haul) {
    for (int permit = 4; permit < 40; permit++) {
      haul.permit(1, 2, 5, 9);
    }
  }

  private static void tellAllEmbargoes(HeavyHaul haul) {
    for (int embargo = 1; embargo < 20; embargo++) {
      haul.embargo(2, 5, 9);
    }
  }

  private static void letDrive(HeavyHaul haul) {
    haul.drive(0, 0);
  }

  /** The rig 0 goes to the place 2, where the road 0 has no end. */
  private static void letDriveAway(HeavyHaul haul) {
    haul.drive(0, 0);
    haul.pass(2);
    haul.drive(0, 1);
    haul.pass(3);
  }

  /** The rig 1 comes to the place 0, and is on the bridge of the road 0 ahead of the rig 0. */
  private static void letAnotherCross(HeavyHaul haul) {
    haul.bridge(0, 9, 999999, 9999999);
    haul.permit(1, 0, 3, 9);
    haul.drive(1, 2);
    haul.pass(3);
    haul.drive(1, 0);
  }

  private static void passToEnd(HeavyHaul haul) {
    for (int now = 0; now < 9936; now += 144) {
      haul.pass(144);
    }
    haul.pass(63);
  }

  // All that an object answers

  /** What the object answers from now on: two objects that are alike answer the same. */
  private static String lookAt(HeavyHaul haul) {
    StringBuilder seen = new StringBuilder();
    lookAtRigs(haul, seen);
    lookAtRoads(haul, seen);
    lookAtAuthorities(haul, seen);
    for (int each = 0; each < 10; each++) {
      int place = each;
      see(seen, () -> Check.number(haul.bay(place, false)));
    }
    see(seen, () -> haul.work(0, 0, 0, 0, 1));
    see(seen, () -> haul.embargo(3, 0, 1));
    see(seen, () -> haul.rig(6, 2, 1, 5, 20, 20, 0));
    see(seen, () -> haul.road(8, 9, 3, 20, 20, 5, 1));
    for (int each = 0; each < 4; each++) {
      int road = each;
      see(seen, () -> Check.number(haul.bridge(road, 1, 1, 1)));
    }
    see(seen, () -> haul.pass(1));
    return seen.toString();
  }

  private static void see(StringBuilder seen, Check.Call call) {
    seen.append(' ').append(Check.told(call));
  }

  private static void lookAtRigs(HeavyHaul haul, StringBuilder seen) {
    for (int each = 0; each < 4; each++) {
      int rig = each;
      for (int other = 0; other < 5; other++) {
        int what = other;
        see(seen, () -> haul.rigIs(rig, what));
        see(seen, () -> haul.axle(rig, what));
      }
      see(seen, () -> haul.arrives(rig, 0, 1, 0));
      see(seen, () -> haul.arrives(rig, 0, 2, 1));
      see(seen, () -> haul.arrives(rig, 1, 2, 15));
    }
  }

  private static void lookAtRoads(HeavyHaul haul, StringBuilder seen) {
    for (int each = 0; each < 4; each++) {
      int road = each;
      for (int other = 0; other < 2; other++) {
        int rig = other;
        see(seen, () -> haul.greatest(road, rig, false));
        see(seen, () -> haul.greatestAnew(road, rig, true));
        for (int ten : new int[] {0, 5, 10, 19, 22, 34, 98, 144, 5000, 9998}) {
          see(seen, () -> haul.why(rig, road, ten));
        }
      }
    }
  }

  /** The first ten from which a permit is given tells the notice, the answer how many there are. */
  private static void lookAtAuthorities(HeavyHaul haul, StringBuilder seen) {
    for (int each = 0; each < 4; each++) {
      int authority = each;
      for (int from : new int[] {0, 4, 5, 6, 500, 501}) {
        see(seen, () -> haul.permit(0, authority, from, 9999));
      }
    }
  }

  // The ranges

  private static int[] usual(Method method) {
    int[] a = new int[method.arguments().length];
    for (int i = 0; i < a.length; i++) {
      a[i] = method.arguments()[i].usual();
    }
    return a;
  }

  private static String told(Method method, int[] a) {
    return method.name() + " " + Arrays.toString(a);
  }

  private void leastAndMost(Method method) {
    for (int i = 0; i < method.arguments().length; i++) {
      Argument argument = method.arguments()[i];
      for (int value : new int[] {argument.least(), argument.most()}) {
        int[] a = usual(method);
        a[i] = value;
        if (argument.name().equals("centre")) {
          // There a load of 0 alone is borne.
          a[1] = 0;
        }
        HeavyHaul haul = world();
        String got = Check.told(() -> method.call().by(haul, a));
        // A rig may drive from where it stands alone, so its state speaks here as well.
        boolean isAnswered = !got.contains("Exception")
            || method.name().equals("drive") && got.equals(Check.STATE);
        check.same(told(method, a), "an answer", isAnswered ? "an answer" : got);
      }
    }
  }

  private void oneBeyondAndFarOff(Method method) {
    String alike = lookAt(world());
    for (int i = 0; i < method.arguments().length; i++) {
      Argument argument = method.arguments()[i];
      for (int value : new int[] {
        argument.least() - 1, argument.most() + 1, Integer.MIN_VALUE, Integer.MAX_VALUE
      }) {
        int[] a = usual(method);
        a[i] = value;
        refused(method, a, argument.isIndex() ? Check.INDEX : Check.ARGUMENT, world(), alike);
      }
    }
  }

  private void refused(Method method, int[] a, String exception, HeavyHaul haul, String alike) {
    check.refused(told(method, a), exception, () -> method.call().by(haul, a));
    unchanged(told(method, a), alike, haul);
  }

  private void unchanged(String call, String alike, HeavyHaul haul) {
    String now = lookAt(haul);
    int first = 0;
    while (first < Math.min(now.length(), alike.length())
        && now.charAt(first) == alike.charAt(first)) {
      first++;
    }
    check.same("what is left behind " + call + ", at the first difference",
        alike.substring(first), now.substring(first));
  }

  /** Each argument right, too small or too large, with the state right and wrong. */
  private void inEveryWay(Method method) {
    int ways = 1;
    for (int i = 0; i < method.arguments().length; i++) {
      ways *= 3;
    }
    inEachOf(ways, method, haul -> { }, false);
    for (Story state : method.states()) {
      inEachOf(ways, method, state, true);
    }
  }

  private void inEachOf(int ways, Method method, Story state, boolean isRefused) {
    String alike = lookAt(worldAfter(state));
    for (int way = 0; way < ways; way++) {
      int[] a = usual(method);
      String first = firstException(method, way, a);
      if (first != null || isRefused) {
        refused(method, a, first == null ? Check.STATE : first, worldAfter(state), alike);
      }
    }
  }

  private static HeavyHaul worldAfter(Story state) {
    HeavyHaul haul = world();
    state.tellTo(haul);
    return haul;
  }

  /** Sets the arguments that this way has wrong; the exception that is due, null without. */
  private static String firstException(Method method, int way, int[] a) {
    String first = null;
    int rest = way;
    for (int i = 0; i < a.length; i++) {
      Argument argument = method.arguments()[i];
      if (rest % 3 != 0) {
        a[i] = rest % 3 == 1 ? argument.least() - 1 : argument.most() + 1;
        if (argument.isIndex()) {
          first = Check.INDEX;
        } else if (first == null) {
          first = Check.ARGUMENT;
        }
      }
      rest /= 3;
    }
    return first;
  }

  /** With no roads and rigs, each number of one is none, whatever else is wrong. */
  private void noneThereYet(Method method) {
    boolean isOfNone = false;
    for (Argument argument : method.arguments()) {
      isOfNone |= argument.name().equals("road") || argument.name().equals("rig");
    }
    if (!isOfNone) {
      return;
    }
    String alike = lookAt(new HeavyHaul());
    int[] a = usual(method);
    refused(method, a, Check.INDEX, new HeavyHaul(), alike);
    for (int i = 0; i < a.length; i++) {
      if (!method.arguments()[i].isIndex()) {
        a[i] = method.arguments()[i].most() + 1;
      }
    }
    refused(method, a, Check.INDEX, new HeavyHaul(), alike);
  }

  // What no single range says

  private void axlesAreEven() {
    for (int each = -3; each <= 20; each++) {
      int axles = each;
      HeavyHaul haul = world();
      boolean isGiven = axles >= 2 && axles <= 16 && axles % 2 == 0;
      check.same("rig with axles " + axles, isGiven ? "2" : Check.ARGUMENT,
          Check.told(() -> haul.rig(0, axles, 1, 20, 40, 40, 0)));
      check.same("the last axle of " + axles, isGiven ? "0" : Check.INDEX,
          Check.told(() -> haul.axle(2, axles - 1)));
      check.refused("behind the last axle of " + axles, Check.INDEX, () -> haul.axle(2, axles));
    }
    HeavyHaul full = world();
    tellAllRigs(full);
    check.refused("odd axles of a rig too many", Check.ARGUMENT,
        () -> full.rig(0, 3, 1, 20, 40, 40, 0));
    check.refused("odd axles at no place", Check.INDEX, () -> full.rig(10, 3, 1, 20, 40, 40, 0));
  }

  private void bothPlacesTheSame() {
    String alike = lookAt(world());
    for (int each = 0; each < 10; each++) {
      int place = each;
      HeavyHaul haul = world();
      check.refused("road from " + place + " to itself", Check.ARGUMENT,
          () -> haul.road(place, place, 0, 40, 40, 20, 2));
      unchanged("road from " + place + " to itself", alike, haul);
    }
    HeavyHaul haul = world();
    check.refused("no such place, of both", Check.INDEX, () -> haul.road(10, 10, 0, 40, 40, 20, 2));
    check.refused("no such authority", Check.INDEX, () -> haul.road(2, 2, 4, 40, 40, 20, 2));
    tellAllRoads(haul);
    check.refused("too many", Check.ARGUMENT, () -> haul.road(2, 2, 0, 40, 40, 20, 2));
  }

  /** to is from and 1 at the least: wherever from is, and whatever the two of them are. */
  private void toIsBehindFrom() {
    int[] tens = {Integer.MIN_VALUE, -1, 0, 1, 2, 77, 9997, 9998, 9999, 10000, Integer.MAX_VALUE};
    for (int from : tens) {
      for (int to : tens) {
        HeavyHaul haul = world();
        boolean isGiven = from >= 0 && to <= 9999 && from < to;
        String stretch = " from " + from + " to " + to;
        check.same("work" + stretch, isGiven ? "2" : Check.ARGUMENT,
            Check.told(() -> haul.work(0, 1, 1, from, to)));
        check.same("permit" + stretch, isGiven ? "5" : Check.ARGUMENT,
            Check.told(() -> haul.permit(0, 0, from, to)));
        check.same("embargo" + stretch, isGiven ? "2" : Check.ARGUMENT,
            Check.told(() -> haul.embargo(0, from, to)));
      }
    }
  }

  private void axleIsOfItsRig() {
    HeavyHaul haul = new HeavyHaul();
    haul.rig(0, 2, 1, 20, 40, 40, 100);
    haul.rig(0, 16, 1, 20, 40, 40, 1600);
    check.due("the last of 2", 50, () -> haul.axle(0, 1));
    check.refused("behind the last of 2", Check.INDEX, () -> haul.axle(0, 2));
    check.due("the last of 16", 100, () -> haul.axle(1, 15));
    check.refused("behind the last of 16", Check.INDEX, () -> haul.axle(1, 16));
  }

  /** Each number of tens that may pass goes up to 9999, and is refused one ten before that. */
  private void endOfTimeIsReached() {
    for (int each = 1; each <= 144; each++) {
      int tens = each;
      HeavyHaul haul = new HeavyHaul();
      int now = 0;
      while (now + 144 <= 9999 - tens) {
        now = haul.pass(144);
      }
      if (now < 9999 - tens) {
        now = haul.pass(9999 - tens - now);
      }
      check.due("pass " + tens + " to the end", 9999, () -> haul.pass(tens));
      check.refused("pass beyond the end", Check.STATE, () -> haul.pass(tens));
    }
  }
}
