/**
 * The boundary cases that the document's 'Terms' name, a method for each sentence. What an argument
 * may be, and what a refused call leaves behind, is in RangeTest.
 */
final class BoundaryTest {
  private final Check check = new Check();
  private HeavyHaul haul = new HeavyHaul();

  public static void main(String[] args) {
    BoundaryTest test = new BoundaryTest();
    test.timeGoesFromNought();
    test.first36TensAreNight();
    test.oneNightHasThemAll();
    test.placeHasNoBayAtFirst();
    test.roadsAtMost20();
    test.worksAtMost30();
    test.rigsAtMost6();
    test.permitsAtMost40();
    test.embargoesAtMost20();
    test.roadIsGoneBothWays();
    test.roadHasNoBridgeAtFirst();
    test.bridgeInPlaceOfAnother();
    test.workHoldsForAllTens();
    test.greatestOfTheWorks();
    test.axle0IsAhead();
    test.rearFromNoughtToTheWeight();
    test.weightOfNoughtIsLeftOut();
    test.halvesAreRounded();
    test.loadInPlaceOfAnother();
    test.axleAtBothEndsIsOn();
    test.momentTakesTheLesser();
    test.provedTillTheLastAxle();
    test.backwardIsTheSame();
    test.borneUpToTheLimits();
    test.noticeIsNoughtAtFirst();
    test.fromIsNowAndTheNotice();
    test.mostWeightOfAnAxle();
    test.permitHasAllTens();
    test.noOnePermit();
    test.embargoHasOneTen();
    test.widerHigherLonger();
    test.firstReasonIsTold();
    test.refusedDrives();
    test.anotherOnABridge();
    test.standsWhenTheTensHavePassed();
    test.driveGoesOnWhateverIsTold();
    test.severalArriveWhileTensPass();
    test.whyIsOfAnyRigAndRoad();
    test.breaches();
    test.arrivalAtTheSamePlace();
    test.waitsInBaysAlone();
    test.drivesEnd287TensBehind();
    test.waitingEnds287TensBehind();
    test.arrivalBothWaysAtOnce();
    test.arrivalByEachReason();
    test.otherRigsLeftOut();
    test.rigIsNoneWithout();
    test.check.close("BoundaryTest");
  }

  // Short ways to ask the object at hand

  private void due(String call, long want, Check.Call made) {
    check.due(call, want, made);
  }

  private void refused(String call, Check.Call made) {
    check.refused(call, Check.STATE, made);
  }

  private void road(long want, int place, int other, int authority, int tens) {
    due("road " + place + " " + other, want,
        () -> haul.road(place, other, authority, 40, 40, 20, tens));
  }

  private void rig(long want, int place) {
    due("rig at " + place, want, () -> haul.rig(place, 2, 1, 20, 40, 40, 0));
  }

  private void permit(long want, int rig, int authority, int from, int to) {
    due("permit " + rig + " " + authority + " " + from + " " + to, want,
        () -> haul.permit(rig, authority, from, to));
  }

  private void bay(long want, int place, boolean is) {
    due("bay " + place + " " + is, want, () -> Check.number(haul.bay(place, is)));
  }

  private void bridge(long want, int road, int span, int weight, int moment) {
    due("bridge " + road + " " + span + " " + weight + " " + moment, want,
        () -> Check.number(haul.bridge(road, span, weight, moment)));
  }

  private void load(int rig, int weight, int centre) {
    due("load " + rig + " " + weight + " " + centre, 0, () -> loaded(rig, weight, centre));
  }

  private long loaded(int rig, int weight, int centre) {
    haul.load(rig, weight, centre);
    return 0;
  }

  private long authority(int authority, int notice, int most) {
    haul.authority(authority, notice, most);
    return 0;
  }

  private void axles(int rig, long... want) {
    for (int axle = 0; axle < want.length; axle++) {
      int number = axle;
      due("axle " + rig + " " + number, want[axle], () -> haul.axle(rig, number));
    }
  }

  private void greatest(int road, int rig, long weight, long moment) {
    String over = " over " + road + " of " + rig;
    due("weight" + over, weight, () -> haul.greatest(road, rig, false));
    due("moment" + over, moment, () -> haul.greatest(road, rig, true));
    due("weight anew" + over, weight, () -> haul.greatestAnew(road, rig, false));
    due("moment anew" + over, moment, () -> haul.greatestAnew(road, rig, true));
  }

  private void why(long want, int rig, int road, int ten) {
    due("why " + rig + " " + road + " " + ten, want, () -> haul.why(rig, road, ten));
  }

  private void drive(long want, int rig, int road) {
    due("drive " + rig + " " + road, want, () -> haul.drive(rig, road));
  }

  private void arrives(long want, int rig, int from, int to, int ten) {
    due("arrives " + rig + " " + from + " " + to + " " + ten, want,
        () -> haul.arrives(rig, from, to, ten));
  }

  private void rigIs(int rig, long place, long road, long arrival, long breaches, long drives) {
    long[] want = {place, road, arrival, breaches, drives};
    for (int each = 0; each < 5; each++) {
      int what = each;
      due("rigIs " + rig + " " + what, want[what], () -> haul.rigIs(rig, what));
    }
  }

  private void pass(long want, int tens) {
    due("pass " + tens, want, () -> haul.pass(tens));
  }

  // Time

  /** "Time goes by tens of minutes, from 0 on, to 9999". */
  private void timeGoesFromNought() {
    haul = new HeavyHaul();
    pass(1, 1);
    for (int now = 1; now + 144 <= 9999; now += 144) {
      pass(now + 144, 144);
    }
    pass(9998, 61);
    check.refused("2 more", Check.STATE, () -> haul.pass(2));
    pass(9999, 1);
    check.refused("1 more", Check.STATE, () -> haul.pass(1));
  }

  /** "a day has 144, of which the first 36 are its night". */
  private void first36TensAreNight() {
    haul = new HeavyHaul();
    road(0, 0, 1, 0, 1);
    rig(0, 0);
    permit(1, 0, 0, 0, 9999);
    for (int ten = 0; ten < 300; ten++) {
      why(ten % 144 < 36 ? 0 : 8, 0, 0, ten);
    }
    // The last day ends before its own end: 9936 is the first of its tens.
    why(8, 0, 0, 9935);
    why(0, 0, 0, 9936);
    why(0, 0, 0, 9971);
    why(8, 0, 0, 9972);
  }

  /** "8 not all of them are of one night". */
  private void oneNightHasThemAll() {
    for (int tens = 1; tens <= 9; tens++) {
      haul = new HeavyHaul();
      road(0, 0, 1, 0, tens);
      rig(0, 0);
      permit(1, 0, 0, 0, 9999);
      why(0, 0, 0, 36 - tens);
      why(8, 0, 0, 37 - tens);
      why(8, 0, 0, 35 + (tens == 1 ? 1 : 0));
      why(8, 0, 0, 144 - tens);
      why(8, 0, 0, 143);
      why(0, 0, 0, 144);
      why(0, 0, 0, 180 - tens);
      why(8, 0, 0, 181 - tens);
    }
  }

  // How many there may be, and what is so at first

  /** "a place may have a bay, none at first". */
  private void placeHasNoBayAtFirst() {
    haul = new HeavyHaul();
    for (int place = 0; place < 10; place++) {
      bay(0, place, false);
      bay(0, place, true);
      bay(1, place, true);
      bay(1, place, false);
      bay(0, place, true);
    }
    // Each place has one of its own.
    bay(1, 4, false);
    bay(1, 3, true);
    bay(1, 5, true);
    bay(0, 4, false);
  }

  /** "Roads are numbered from 0, at most 20". */
  private void roadsAtMost20() {
    haul = new HeavyHaul();
    check.refused("why on the road 0", Check.INDEX, () -> haul.greatest(0, 0, true));
    rig(0, 0);
    for (int number = 0; number < 20; number++) {
      int next = number;
      check.refused("not yet told", Check.INDEX, () -> haul.why(0, next, 0));
      road(number, number % 10, (number + 1) % 10, number % 4, 1 + number % 9);
      why(6, 0, number, 0);
    }
    refused("the 21st road", () -> haul.road(0, 1, 0, 40, 40, 20, 1));
    check.refused("why on the road 20", Check.INDEX, () -> haul.why(0, 20, 0));
    // The last one is as told: from 9 to 0, of the authority 3, and 2 tens long.
    permit(1, 0, 3, 0, 9);
    why(0, 0, 19, 7);
    why(6, 0, 19, 8);
    drive(2, 0, 19);
  }

  /** "if there are 30" works, of all roads together. */
  private void worksAtMost30() {
    haul = new HeavyHaul();
    road(0, 0, 1, 0, 1);
    road(1, 0, 1, 0, 1);
    due("rig", 0, () -> haul.rig(0, 2, 1, 20, 41, 40, 0));
    for (int count = 1; count <= 30; count++) {
      int number = count;
      due("work", count, () -> haul.work(number % 2, number == 30 ? 1 : 0, 0, number, 9999));
    }
    why(6, 0, 0, 30);
    why(1, 0, 0, 29);
    refused("the 31st work", () -> haul.work(1, 1, 0, 0, 9999));
    why(1, 0, 1, 30);
  }

  /** "Rigs are numbered from 0, at most 6". */
  private void rigsAtMost6() {
    haul = new HeavyHaul();
    for (int number = 0; number < 6; number++) {
      int next = number;
      check.refused("not yet told", Check.INDEX, () -> haul.rigIs(next, 0));
      rig(number, 9 - number);
      rigIs(number, 9 - number, -1, -1, 0, 0);
    }
    refused("the 7th rig", () -> haul.rig(0, 2, 1, 20, 40, 40, 0));
    check.refused("the rig 6", Check.INDEX, () -> haul.rigIs(6, 0));
    rigIs(5, 4, -1, -1, 0, 0);
  }

  /** "or there are 40" permits, of all rigs and authorities together. */
  private void permitsAtMost40() {
    haul = new HeavyHaul();
    road(0, 0, 1, 3, 1);
    rig(0, 0);
    rig(1, 0);
    for (int count = 1; count < 40; count++) {
      permit(count, count % 2, count % 3, 0, 9999);
    }
    why(6, 1, 0, 0);
    permit(40, 1, 3, 0, 9999);
    why(0, 1, 0, 0);
    refused("the 41st permit", () -> haul.permit(0, 3, 0, 9999));
    why(6, 0, 0, 0);
  }

  /** "if there are 20" embargoes, of all authorities together. */
  private void embargoesAtMost20() {
    haul = new HeavyHaul();
    road(0, 0, 1, 3, 1);
    rig(0, 0);
    permit(1, 0, 3, 0, 9999);
    for (int count = 1; count < 20; count++) {
      int number = count;
      due("embargo", count, () -> haul.embargo(number % 3, 0, 9999));
    }
    why(0, 0, 0, 7);
    due("embargo", 20, () -> haul.embargo(3, 7, 8));
    why(7, 0, 0, 7);
    refused("the 21st embargo", () -> haul.embargo(3, 8, 9));
    why(0, 0, 0, 8);
  }

  // Roads and bridges as told

  /** "each between two unlike places, gone both ways". */
  private void roadIsGoneBothWays() {
    haul = new HeavyHaul();
    road(0, 7, 3, 0, 2);
    rig(0, 7);
    rig(1, 3);
    rig(2, 5);
    for (int rig = 0; rig < 3; rig++) {
      permit(rig + 1, rig, 0, 0, 99);
    }
    arrives(2, 0, 7, 3, 0);
    arrives(2, 0, 3, 7, 0);
    drive(2, 0, 0);
    drive(2, 1, 0);
    refused("from no end of it", () -> haul.drive(2, 0));
    pass(2, 2);
    rigIs(0, 3, -1, 2, 0, 1);
    rigIs(1, 7, -1, 2, 0, 1);
    rigIs(2, 5, -1, -1, 0, 0);
    drive(4, 0, 0);
    pass(4, 2);
    rigIs(0, 7, -1, 4, 0, 2);
  }

  /** "A road may have a bridge"; "NONE if there is no bridge". */
  private void roadHasNoBridgeAtFirst() {
    haul = new HeavyHaul();
    road(0, 0, 1, 0, 1);
    road(1, 0, 1, 0, 1);
    due("the heaviest", 0, () -> haul.rig(0, 2, 1, 20, 40, 40, 99999));
    permit(1, 0, 0, 0, 9);
    greatest(0, 0, -1, -1);
    why(0, 0, 0, 0);
    bridge(0, 0, 1, 1, 1);
    greatest(0, 0, 99998, 0);
    why(4, 0, 0, 0);
    greatest(1, 0, -1, -1);
    why(0, 0, 1, 0);
  }

  /** "Tells a bridge of a road, in place of what was told". */
  private void bridgeInPlaceOfAnother() {
    haul = new HeavyHaul();
    road(0, 0, 1, 0, 1);
    due("rig", 0, () -> haul.rig(0, 2, 2, 20, 40, 40, 200));
    permit(1, 0, 0, 0, 9);
    bridge(0, 0, 40, 999999, 9999999);
    greatest(0, 0, 200, 3800);
    why(0, 0, 0, 0);
    bridge(1, 0, 1, 99, 9999999);
    greatest(0, 0, 100, 0);
    why(4, 0, 0, 0);
    bridge(1, 0, 1, 100, 1);
    why(0, 0, 0, 0);
    bridge(1, 0, 4, 200, 199);
    greatest(0, 0, 200, 200);
    why(4, 0, 0, 0);
    check.refused("a span of 0", Check.ARGUMENT, () -> Check.number(haul.bridge(0, 0, 1, 1)));
    greatest(0, 0, 200, 200);
    bridge(1, 0, 4, 200, 200);
    why(0, 0, 0, 0);
  }

  // Works

  /** "from a ten up to another one, that one not with it"; "that hold for all of its tens". */
  private void workHoldsForAllTens() {
    for (int each = 1; each <= 9; each++) {
      int tens = each;
      haul = new HeavyHaul();
      road(0, 0, 1, 0, tens);
      due("wide", 0, () -> haul.rig(0, 2, 1, 20, 41, 40, 0));
      due("high", 1, () -> haul.rig(0, 2, 1, 20, 40, 41, 0));
      permit(1, 0, 0, 0, 9999);
      permit(2, 1, 0, 0, 9999);
      due("work", 1, () -> haul.work(0, 1, 1, 10, 20));
      for (int ten = 0; ten < 24; ten++) {
        boolean holds = ten >= 10 && ten + tens <= 20;
        why(holds ? 0 : 1, 0, 0, ten);
        why(holds ? 0 : 2, 1, 0, ten);
      }
    }
    // The shortest work: one ten.
    haul = new HeavyHaul();
    road(0, 0, 1, 0, 1);
    due("wide", 0, () -> haul.rig(0, 2, 1, 20, 41, 40, 0));
    permit(1, 0, 0, 0, 9999);
    due("work", 1, () -> haul.work(0, 1, 0, 0, 1));
    due("work", 2, () -> haul.work(0, 1, 0, 9, 10));
    why(0, 0, 0, 0);
    why(1, 0, 0, 1);
    why(1, 0, 0, 8);
    why(0, 0, 0, 9);
    why(1, 0, 0, 10);
    // The last ten that a work can have is 9998.
    due("work", 3, () -> haul.work(0, 1, 0, 9998, 9999));
    why(1, 0, 0, 9997);
    why(8, 0, 0, 9998);
    why(1, 0, 0, 9999);
  }

  /** "as much more as the greatest of the works .., for width and height each by itself". */
  private void greatestOfTheWorks() {
    haul = new HeavyHaul();
    due("road", 0, () -> haul.road(0, 1, 0, 49, 20, 20, 1));
    due("widest", 0, () -> haul.rig(0, 2, 1, 20, 99, 20, 0));
    due("high", 1, () -> haul.rig(0, 2, 1, 20, 20, 70, 0));
    due("higher", 2, () -> haul.rig(0, 2, 1, 20, 20, 71, 0));
    due("both", 3, () -> haul.rig(0, 2, 1, 20, 99, 70, 0));
    for (int rig = 0; rig < 4; rig++) {
      permit(rig + 1, rig, 0, 0, 9999);
    }
    // Two that make 50 together are not one that makes 50.
    due("half of it", 1, () -> haul.work(0, 25, 25, 0, 36));
    due("the other half", 2, () -> haul.work(0, 25, 25, 0, 36));
    why(1, 0, 0, 0);
    why(2, 1, 0, 0);
    due("one less", 3, () -> haul.work(0, 49, 49, 0, 36));
    why(1, 0, 0, 0);
    why(2, 1, 0, 0);
    due("all the width", 4, () -> haul.work(0, 50, 0, 0, 30));
    why(0, 0, 0, 29);
    why(1, 0, 0, 30);
    why(2, 1, 0, 0);
    why(2, 3, 0, 0);
    due("all the height", 5, () -> haul.work(0, 0, 50, 10, 36));
    why(2, 3, 0, 9);
    why(0, 3, 0, 10);
    why(0, 3, 0, 29);
    why(1, 3, 0, 30);
    why(0, 1, 0, 35);
    why(2, 2, 0, 20);
  }

  // Rigs and loads

  /** "the axle 0 ahead": the front half is of the first axles, the rear half of the last ones. */
  private void axle0IsAhead() {
    for (int each = 2; each <= 16; each += 2) {
      int axles = each;
      for (int other = 1; other <= 5; other++) {
        int apart = other;
        haul = new HeavyHaul();
        due("rig", 0, () -> haul.rig(0, axles, apart, 20, 40, 40, 0));
        // A centre that both halves can reach: the middle, doubled, is of whole metres or a half.
        int doubled = (axles - 1) * apart;
        int ahead = (doubled - 1) / 2;
        load(0, axles * apart * 100, ahead);
        long rear = 100L * (2 * ahead - (axles / 2 - 1) * apart);
        long front = axles * apart * 100L - rear;
        for (int axle = 0; axle < axles; axle++) {
          int number = axle;
          long borne = axle < axles / 2 ? front : rear;
          due("axle " + axle + " of " + axles, (borne + axles / 2 - 1) / (axles / 2),
              () -> haul.axle(0, number));
        }
      }
    }
  }

  /** "That must be from 0 to the weight, as exact numbers". */
  private void rearFromNoughtToTheWeight() {
    for (int each = 2; each <= 16; each += 2) {
      int axles = each;
      for (int apart = 1; apart <= 5; apart++) {
        int metres = apart;
        haul = new HeavyHaul();
        due("rig", 0, () -> haul.rig(0, axles, metres, 20, 40, 40, 0));
        int frontMiddle = (axles / 2 - 1) * apart;
        int rearMiddle = frontMiddle + axles * apart;
        for (int at = 0; at <= 80; at++) {
          int centre = at;
          // A weight of 1 is rounded to 0 or 1, but exact numbers say whether it is borne.
          boolean isBorne = 2 * centre >= frontMiddle && 2 * centre <= rearMiddle;
          check.same("load at " + centre + " of " + axles, isBorne ? "0" : Check.STATE,
              Check.told(() -> loaded(0, 1, centre)));
          check.same("the greatest load at " + centre + " of " + axles, isBorne ? "0" : Check.STATE,
              Check.told(() -> loaded(0, 200000, centre)));
        }
      }
    }
    // At either middle one half bears it all.
    haul = new HeavyHaul();
    due("rig", 0, () -> haul.rig(0, 6, 2, 20, 40, 40, 0));
    load(0, 30, 2);
    axles(0, 10, 10, 10, 0, 0, 0);
    load(0, 30, 8);
    axles(0, 0, 0, 0, 10, 10, 10);
    refused("ahead of it", () -> loaded(0, 30, 1));
    axles(0, 0, 0, 0, 10, 10, 10);
    refused("behind it", () -> loaded(0, 60, 9));
    axles(0, 0, 0, 0, 10, 10, 10);
    check.refused("too light, and behind it", Check.ARGUMENT, () -> loaded(0, -1, 9));
    check.refused("too heavy, and ahead of it", Check.ARGUMENT, () -> loaded(0, 200001, 1));
    check.refused("no rig, and behind it", Check.INDEX, () -> loaded(1, 60, 9));
    axles(0, 0, 0, 0, 10, 10, 10);
  }

  /** "a weight of 0 left out". */
  private void weightOfNoughtIsLeftOut() {
    for (int centre = 0; centre <= 80; centre++) {
      haul = new HeavyHaul();
      due("rig", 0, () -> haul.rig(0, 4, 2, 20, 40, 40, 40));
      load(0, 100, 3);
      axles(0, 35, 35, 35, 35);
      load(0, 0, centre);
      axles(0, 10, 10, 10, 10);
    }
  }

  /** "it is rounded down, the front half bears the rest"; "rounded down, both together, .. up". */
  private void halvesAreRounded() {
    haul = new HeavyHaul();
    // The rear half bears a sixth: 2 * (2 - 1) of 2 * 6.
    due("rig", 0, () -> haul.rig(0, 6, 1, 20, 40, 40, 0));
    load(0, 5, 1);
    axles(0, 2, 2, 2, 0, 0, 0);
    load(0, 6, 1);
    axles(0, 2, 2, 2, 0, 0, 0);
    load(0, 12, 2);
    // 12 * 2 / 6 is 4, 8 are ahead.
    axles(0, 3, 3, 3, 2, 2, 2);
    load(0, 13, 2);
    // 4 and a third is 4, 9 are ahead.
    axles(0, 3, 3, 3, 2, 2, 2);
    load(0, 14, 2);
    // 4 and two thirds is 4, 10 are ahead.
    axles(0, 4, 4, 4, 2, 2, 2);
    load(0, 15, 2);
    axles(0, 4, 4, 4, 2, 2, 2);
    // An odd weight of its own: the half is rounded down.
    for (int own = 0; own < 9; own++) {
      int weight = own;
      haul = new HeavyHaul();
      due("rig", 0, () -> haul.rig(0, 4, 1, 20, 40, 40, weight));
      long each = (weight / 2 + 1) / 2;
      axles(0, each, each, each, each);
    }
    // Both together are rounded up: 1 and 1 make 2 for two axles, not 1 and 1 for each.
    haul = new HeavyHaul();
    due("rig", 0, () -> haul.rig(0, 4, 2, 20, 40, 40, 2));
    axles(0, 1, 1, 1, 1);
    load(0, 2, 3);
    axles(0, 1, 1, 1, 1);
    load(0, 3, 3);
    axles(0, 2, 2, 1, 1);
    // The heaviest of all.
    due("heaviest", 1, () -> haul.rig(0, 2, 1, 20, 40, 40, 99999));
    load(1, 200000, 0);
    axles(1, 249999, 49999);
    load(1, 200000, 1);
    axles(1, 49999, 249999);
    due("longest", 2, () -> haul.rig(0, 16, 5, 99, 40, 40, 99999));
    load(2, 200000, 57);
    axles(2, 6563, 6563, 6563, 6563, 6563, 6563, 6563, 6563, 30938, 30938);
    refused("behind 57 and a half", () -> loaded(2, 200000, 58));
    load(2, 200000, 18);
    // 200000 * (36 - 35) / 80 is 2500.
    axles(2, 30938, 30938, 30938, 30938, 30938, 30938, 30938, 30938, 6563, 6563);
    refused("ahead of 17 and a half", () -> loaded(2, 200000, 17));
  }

  /** "Puts a load on a rig, in place of what it had". */
  private void loadInPlaceOfAnother() {
    haul = new HeavyHaul();
    rig(0, 0);
    rig(1, 0);
    axles(0, 0, 0);
    load(0, 10, 0);
    load(0, 20, 1);
    axles(0, 0, 20);
    axles(1, 0, 0);
    load(0, 5, 0);
    axles(0, 5, 0);
    load(0, 0, 0);
    axles(0, 0, 0);
  }

  // Bridges

  /** "An axle is on the bridge, if it is from 0 to the span behind the beginning, both with it". */
  private void axleAtBothEndsIsOn() {
    for (int each = 1; each <= 5; each++) {
      int apart = each;
      haul = new HeavyHaul();
      road(0, 0, 1, 0, 1);
      due("rig", 0, () -> haul.rig(0, 16, apart, 20, 40, 40, 1600));
      for (int span = 1; span <= 40; span++) {
        bridge(span == 1 ? 0 : 1, 0, span, 1, 1);
        int on = Math.min(16, span / apart + 1);
        int length = span;
        due("weight on " + span, 100L * on, () -> haul.greatest(0, 0, false));
        due("weight anew on " + length, 100L * on, () -> haul.greatestAnew(0, 0, false));
      }
    }
  }

  /** "times the lesser of how far it is from the beginning and from the end". */
  private void momentTakesTheLesser() {
    haul = new HeavyHaul();
    road(0, 0, 1, 0, 1);
    // The axles are 5 apart, so on a span up to 5 the one in the middle counts alone.
    due("rig", 0, () -> haul.rig(0, 2, 5, 20, 40, 40, 20));
    long[] alone = {0, 10, 10, 20, 20};
    for (int span = 1; span <= 5; span++) {
      bridge(span == 1 ? 0 : 1, 0, span, 1, 1);
      greatest(0, 0, span == 5 ? 20 : 10, alone[span - 1]);
    }
    // On 6 the axles are at 3 and none, or at 5 and 0: 30 and 10; then 1 and 6: 10.
    bridge(1, 0, 6, 1, 1);
    greatest(0, 0, 20, 30);
    // On 7: 3, or 6 and 1: 20.
    bridge(1, 0, 7, 1, 1);
    greatest(0, 0, 20, 30);
    // On 11: at 3 and 8: 3 and 3, at 5 alone, at 5 and 0: 5, at 6 and 1: 5 and 1.
    bridge(1, 0, 11, 1, 1);
    greatest(0, 0, 20, 60);
    bridge(1, 0, 40, 1, 1);
    greatest(0, 0, 20, 350);
  }

  /** "from 0 on that the axle 0 is behind the beginning, till the last axle is beyond the end". */
  private void provedTillTheLastAxle() {
    for (int each = 2; each <= 16; each += 2) {
      int axles = each;
      haul = new HeavyHaul();
      road(0, 0, 1, 0, 1);
      due("rig", 0, () -> haul.rig(0, axles, 5, 20, 40, 40, 0));
      bridge(0, 0, 2, 1, 1);
      greatest(0, 0, 0, 0);
      // The rear half bears more, and the more so alone.
      int rearMiddle = 3 * (axles / 2) * 5 - 5;
      load(0, 80 * axles, rearMiddle / 2);
      int last = axles - 1;
      due("the last axle is the heaviest", haul.axle(0, last),
          () -> Math.max(haul.axle(0, 0), haul.axle(0, last)));
      greatest(0, 0, haul.axle(0, last), haul.axle(0, last));
      // And the front half, if the centre is ahead.
      load(0, 80 * axles, ((axles / 2 - 1) * 5 + 1) / 2);
      greatest(0, 0, haul.axle(0, 0), haul.axle(0, 0));
    }
  }

  /** "Returns the same, found with the rig going backward". */
  private void backwardIsTheSame() {
    for (int apart = 1; apart <= 5; apart++) {
      int metres = apart;
      haul = new HeavyHaul();
      road(0, 0, 1, 0, 1);
      due("rig", 0, () -> haul.rig(0, 8, metres, 20, 40, 40, 803));
      load(0, 4001, 3 * apart);
      for (int each = 1; each <= 40; each++) {
        int span = each;
        haul.bridge(0, span, 1, 1);
        due("weight on " + span, haul.greatest(0, 0, false),
            () -> haul.greatestAnew(0, 0, false));
        due("moment on " + span, haul.greatest(0, 0, true), () -> haul.greatestAnew(0, 0, true));
      }
    }
  }

  /** "The rig is borne, if in no step one is above its limit". */
  private void borneUpToTheLimits() {
    haul = new HeavyHaul();
    road(0, 0, 1, 0, 1);
    due("rig", 0, () -> haul.rig(0, 2, 2, 20, 40, 40, 200));
    permit(1, 0, 0, 0, 9);
    bridge(0, 0, 10, 200, 800);
    greatest(0, 0, 200, 800);
    why(0, 0, 0, 0);
    bridge(1, 0, 10, 199, 800);
    why(4, 0, 0, 0);
    bridge(1, 0, 10, 200, 799);
    why(4, 0, 0, 0);
    bridge(1, 0, 10, 201, 801);
    why(0, 0, 0, 0);
    bridge(1, 0, 10, 199, 9999999);
    why(4, 0, 0, 0);
    bridge(1, 0, 10, 999999, 799);
    why(4, 0, 0, 0);
    // The heaviest rig is borne by the greatest limits.
    due("heaviest", 1, () -> haul.rig(0, 16, 1, 20, 40, 40, 99999));
    load(1, 200000, 8);
    permit(2, 1, 0, 0, 9);
    bridge(1, 0, 40, 999999, 9999999);
    why(0, 1, 0, 0);
  }

  // Permits

  /** "An authority has a notice, 0 at first". */
  private void noticeIsNoughtAtFirst() {
    haul = new HeavyHaul();
    rig(0, 0);
    for (int authority = 0; authority < 4; authority++) {
      permit(authority + 1, 0, authority, 0, 1);
    }
    pass(100, 100);
    for (int each = 0; each < 4; each++) {
      int authority = each;
      refused("behind now", () -> haul.permit(0, authority, 99, 9999));
      permit(authority + 5, 0, authority, 100, 9999);
    }
  }

  /** "from is at least now and the notice". */
  private void fromIsNowAndTheNotice() {
    haul = new HeavyHaul();
    rig(0, 0);
    due("longest notice", 0, () -> authority(1, 999, 99999));
    refused("one too soon", () -> haul.permit(0, 1, 998, 999));
    permit(1, 0, 1, 999, 1000);
    pass(7, 7);
    refused("one too soon", () -> haul.permit(0, 1, 1005, 9999));
    permit(2, 0, 1, 1006, 9999);
    // What was given before stays, and each authority has a notice of its own.
    permit(3, 0, 0, 7, 8);
    due("a notice of 1", 0, () -> authority(1, 1, 99999));
    refused("now", () -> haul.permit(0, 1, 7, 9999));
    permit(4, 0, 1, 8, 9999);
    due("no notice", 0, () -> authority(1, 0, 99999));
    permit(5, 0, 1, 7, 9999);
    refused("before now", () -> haul.permit(0, 1, 6, 9999));
    // Shortly before the end no permit comes soon enough.
    for (int now = 7; now + 144 <= 9998; now += 144) {
      haul.pass(144);
    }
    pass(9998, 55);
    permit(6, 0, 1, 9998, 9999);
    due("a notice of 1", 0, () -> authority(1, 1, 99999));
    refused("9998", () -> haul.permit(0, 1, 9998, 9999));
    check.refused("9999", Check.ARGUMENT, () -> haul.permit(0, 1, 9999, 9999));
  }

  /** "a most weight for an axle, 99999 at first"; "5 an axle has more than the authority lets". */
  private void mostWeightOfAnAxle() {
    for (int each = 0; each < 4; each++) {
      int authority = each;
      haul = new HeavyHaul();
      road(0, 0, 1, authority, 1);
      rig(0, 0);
      permit(1, 0, authority, 0, 9);
      for (int centre = 0; centre < 2; centre++) {
        load(0, 99999, centre);
        why(0, 0, 0, 0);
        load(0, 100000, centre);
        why(5, 0, 0, 0);
      }
      due("the least", 0, () -> authority(authority, 0, 1));
      load(0, 1, 0);
      why(0, 0, 0, 0);
      load(0, 1, 1);
      why(0, 0, 0, 0);
      load(0, 2, 1);
      why(5, 0, 0, 0);
      due("another one", 0, () -> authority(3 - authority, 0, 2));
      why(5, 0, 0, 0);
      due("one more", 0, () -> authority(authority, 0, 2));
      why(0, 0, 0, 0);
    }
  }

  /** "6 no one permit of it, of the road's authority, has all tens of the drive". */
  private void permitHasAllTens() {
    for (int tens = 1; tens <= 9; tens++) {
      haul = new HeavyHaul();
      road(0, 0, 1, 2, tens);
      rig(0, 0);
      permit(1, 0, 2, 10, 20);
      for (int ten = 0; ten < 26; ten++) {
        why(ten >= 10 && ten + tens <= 20 ? 0 : 6, 0, 0, ten);
      }
      // One that is as long as the drive has a single beginning.
      permit(2, 0, 2, 22, 22 + tens);
      why(6, 0, 0, 21);
      why(0, 0, 0, 22);
      why(6, 0, 0, 23);
    }
    haul = new HeavyHaul();
    road(0, 0, 1, 0, 1);
    rig(0, 0);
    permit(1, 0, 0, 0, 9999);
    why(8, 0, 0, 9998);
    why(6, 0, 0, 9999);
  }

  /** "no one permit": not two together, not one of another rig or of another authority. */
  private void noOnePermit() {
    haul = new HeavyHaul();
    road(0, 0, 1, 0, 2);
    rig(0, 0);
    rig(1, 0);
    permit(1, 0, 0, 0, 10);
    permit(2, 0, 0, 10, 20);
    permit(3, 1, 0, 0, 20);
    permit(4, 0, 1, 0, 20);
    why(0, 0, 0, 8);
    why(6, 0, 0, 9);
    why(0, 1, 0, 9);
    why(0, 0, 0, 10);
    permit(5, 0, 0, 9, 11);
    why(0, 0, 0, 9);
  }

  /** "a rig may drive on none of its roads then"; "7 an embargo has one of them". */
  private void embargoHasOneTen() {
    for (int tens = 1; tens <= 9; tens++) {
      haul = new HeavyHaul();
      road(0, 0, 1, 1, tens);
      road(1, 1, 2, 1, tens);
      road(2, 1, 2, 0, tens);
      rig(0, 0);
      permit(1, 0, 1, 0, 9999);
      permit(2, 0, 0, 0, 9999);
      due("embargo", 1, () -> haul.embargo(1, 12, 14));
      for (int ten = 0; ten < 27; ten++) {
        boolean isOver = ten + tens <= 12 || ten >= 14;
        why(isOver ? 0 : 7, 0, 0, ten);
        why(isOver ? 0 : 7, 0, 1, ten);
        why(0, 0, 2, ten);
      }
    }
    // The shortest one, within a long drive.
    haul = new HeavyHaul();
    road(0, 0, 1, 0, 9);
    rig(0, 0);
    permit(1, 0, 0, 0, 9999);
    due("embargo", 1, () -> haul.embargo(0, 13, 14));
    why(0, 0, 0, 4);
    why(7, 0, 0, 5);
    why(7, 0, 0, 13);
    why(0, 0, 0, 14);
    due("embargo", 2, () -> haul.embargo(0, 0, 1));
    why(7, 0, 0, 0);
    why(0, 0, 0, 1);
    due("embargo", 3, () -> haul.embargo(0, 9998, 9999));
    why(0, 0, 0, 144);
    why(8, 0, 0, 9989);
    why(7, 0, 0, 9990);
    why(6, 0, 0, 9991);
  }

  // Drives

  /** "1 it is wider than the road; 2 it is higher; 3 it is longer than the bends let". */
  private void widerHigherLonger() {
    haul = new HeavyHaul();
    due("road", 0, () -> haul.road(0, 1, 0, 50, 60, 70, 1));
    int[][] sizes = {{70, 50, 60}, {5, 20, 20}, {70, 51, 60}, {70, 50, 61}, {71, 50, 60}};
    long[] want = {0, 0, 1, 2, 3};
    for (int each = 0; each < 5; each++) {
      int[] size = sizes[each];
      due("rig", each, () -> haul.rig(0, 2, 1, size[0], size[1], size[2], 0));
      permit(each + 1, each, 0, 0, 9);
      why(want[each], each, 0, 0);
    }
    due("the widest road", 1, () -> haul.road(0, 1, 0, 99, 99, 99, 1));
    due("the widest rig", 5, () -> haul.rig(0, 2, 1, 99, 99, 99, 0));
    permit(6, 5, 0, 0, 9);
    why(0, 5, 1, 0);
    why(1, 5, 0, 0);
    due("the least road", 2, () -> haul.road(0, 1, 0, 20, 20, 5, 1));
    why(0, 1, 2, 0);
  }

  /** "Returns 1 to 8 as told, the first that is so; 0 if it may": all of them so, then one less. */
  private void firstReasonIsTold() {
    haul = new HeavyHaul();
    due("road", 0, () -> haul.road(0, 1, 0, 30, 30, 30, 1));
    due("rig", 0, () -> haul.rig(0, 2, 1, 31, 31, 31, 4));
    bridge(0, 0, 5, 1, 1);
    due("authority", 0, () -> authority(0, 0, 1));
    due("embargo", 1, () -> haul.embargo(0, 36, 37));
    why(1, 0, 0, 36);
    due("wider", 1, () -> haul.work(0, 1, 0, 0, 9999));
    why(2, 0, 0, 36);
    due("higher", 2, () -> haul.work(0, 0, 1, 0, 9999));
    why(3, 0, 0, 36);
    due("with longer bends", 1, () -> haul.road(0, 1, 0, 31, 31, 31, 1));
    bridge(0, 1, 5, 3, 999);
    why(4, 0, 1, 36);
    bridge(1, 1, 5, 4, 7);
    why(4, 0, 1, 36);
    bridge(1, 1, 5, 4, 8);
    why(5, 0, 1, 36);
    due("authority", 0, () -> authority(0, 0, 2));
    why(6, 0, 1, 36);
    permit(1, 0, 0, 0, 300);
    why(7, 0, 1, 36);
    why(8, 0, 1, 37);
    why(8, 0, 1, 143);
    why(0, 0, 1, 144);
    why(0, 0, 1, 35);
  }

  /** "if it drives, does not stand at an end of the road, may not begin the drive now". */
  private void refusedDrives() {
    haul = new HeavyHaul();
    road(0, 0, 1, 0, 2);
    road(1, 1, 2, 0, 2);
    rig(0, 0);
    refused("without a permit", () -> haul.drive(0, 0));
    permit(1, 0, 0, 1, 37);
    refused("too soon for its permit", () -> haul.drive(0, 0));
    rigIs(0, 0, -1, -1, 0, 0);
    pass(1, 1);
    refused("not at an end of it", () -> haul.drive(0, 1));
    drive(3, 0, 0);
    refused("it drives on it", () -> haul.drive(0, 0));
    refused("it drives", () -> haul.drive(0, 1));
    rigIs(0, -1, 0, 3, 0, 1);
    pass(2, 1);
    refused("it still drives towards it", () -> haul.drive(0, 1));
    refused("it drives, so it takes no load", () -> loaded(0, 0, 0));
    pass(3, 1);
    rigIs(0, 1, -1, 3, 0, 1);
    load(0, 0, 0);
    drive(5, 0, 1);
    pass(35, 32);
    refused("a ten of it is by day", () -> haul.drive(0, 1));
    rigIs(0, 2, -1, 5, 0, 2);
    pass(36, 1);
    refused("by day", () -> haul.drive(0, 1));
    pass(144, 108);
    refused("its permit has ended", () -> haul.drive(0, 1));
    rigIs(0, 2, -1, 5, 108, 2);
  }

  /** "unless another one is on that road, which has a bridge". */
  private void anotherOnABridge() {
    haul = new HeavyHaul();
    road(0, 0, 1, 0, 3);
    road(1, 0, 1, 0, 3);
    road(2, 0, 1, 0, 3);
    bridge(0, 0, 5, 10, 10);
    bridge(0, 2, 5, 10, 10);
    for (int rig = 0; rig < 4; rig++) {
      rig(rig, rig == 1 ? 1 : 0);
      permit(rig + 1, rig, 0, 0, 99);
    }
    drive(3, 0, 0);
    refused("from the other end", () -> haul.drive(1, 0));
    refused("behind it", () -> haul.drive(2, 0));
    rigIs(2, 0, -1, -1, 0, 0);
    // It is not why, and another bridge, or a road without one, is free.
    why(0, 2, 0, 0);
    arrives(3, 2, 0, 1, 0);
    drive(3, 2, 2);
    drive(3, 1, 1);
    drive(3, 3, 1);
    pass(2, 2);
    rigIs(0, -1, 0, 3, 0, 1);
    pass(3, 1);
    // It left the bridge as it arrived.
    drive(6, 0, 0);
    refused("behind it again", () -> haul.drive(2, 0));
    drive(6, 2, 2);
  }

  /** "when the tens of the road have passed, it stands at the other place". */
  private void standsWhenTheTensHavePassed() {
    for (int tens = 1; tens <= 9; tens++) {
      haul = new HeavyHaul();
      road(0, 4, 6, 0, tens);
      rig(0, 6);
      permit(1, 0, 0, 0, 9999);
      rigIs(0, 6, -1, -1, 0, 0);
      drive(tens, 0, 0);
      rigIs(0, -1, 0, tens, 0, 1);
      if (tens > 1) {
        pass(tens - 1, tens - 1);
        rigIs(0, -1, 0, tens, 0, 1);
      }
      pass(tens, 1);
      rigIs(0, 4, -1, tens, 0, 1);
      drive(2 * tens, 0, 0);
      pass(tens + 144, 144);
      rigIs(0, 6, -1, 2 * tens, 108, 2);
    }
  }

  /** "A rig may begin a drive ..., if none of these is so": what is told later stops none. */
  private void driveGoesOnWhateverIsTold() {
    haul = new HeavyHaul();
    road(0, 0, 1, 0, 5);
    rig(0, 0);
    permit(1, 0, 0, 0, 5);
    load(0, 10, 0);
    drive(5, 0, 0);
    pass(1, 1);
    due("embargo", 1, () -> haul.embargo(0, 0, 9999));
    due("authority", 0, () -> authority(0, 999, 1));
    bridge(0, 0, 5, 1, 1);
    bay(0, 0, true);
    pass(4, 3);
    rigIs(0, -1, 0, 5, 0, 1);
    why(4, 0, 0, 4);
    pass(5, 1);
    rigIs(0, 1, -1, 5, 0, 1);
    refused("back over the bridge", () -> haul.drive(0, 0));
    bridge(1, 0, 5, 10, 20);
    why(5, 0, 0, 5);
    due("authority", 0, () -> authority(0, 0, 10));
    why(6, 0, 0, 5);
    permit(2, 0, 0, 5, 10);
    why(7, 0, 0, 5);
    refused("under the embargo", () -> haul.drive(0, 0));
    rigIs(0, 1, -1, 5, 0, 1);
  }

  /** "when the tens of the road have passed, it stands at the other place": each by itself. */
  private void severalArriveWhileTensPass() {
    haul = new HeavyHaul();
    for (int number = 0; number < 6; number++) {
      road(number, number, number + 1, 0, number + 1);
      rig(number, number);
      permit(number + 1, number, 0, 0, 50);
    }
    bay(0, 4, true);
    pass(30, 30);
    for (int number = 0; number < 6; number++) {
      drive(31 + number, number, number);
    }
    // The rigs 0 to 2 have arrived at 33, the others drive.
    pass(33, 3);
    for (int number = 0; number < 6; number++) {
      boolean isThere = number < 3;
      rigIs(number, isThere ? number + 1 : -1, isThere ? -1 : number, 31 + number, 0, 1);
    }
    // All arrive by 36: of the ten 36 each has a breach, but for the rig at the bay.
    pass(37, 4);
    for (int number = 0; number < 6; number++) {
      rigIs(number, number + 1, -1, 31 + number, number == 3 ? 0 : 1, 1);
    }
  }

  /** "Tells why a rig may not begin a drive on a road at a ten", wherever it is and is going. */
  private void whyIsOfAnyRigAndRoad() {
    haul = new HeavyHaul();
    road(0, 0, 1, 0, 3);
    road(1, 7, 8, 0, 3);
    bridge(0, 0, 5, 10, 10);
    rig(0, 0);
    permit(1, 0, 0, 0, 9);
    why(0, 0, 1, 0);
    drive(3, 0, 0);
    // Neither that it drives, nor that it is on that bridge itself, nor that a ten is over.
    pass(2, 2);
    why(0, 0, 0, 0);
    why(0, 0, 0, 2);
    why(0, 0, 1, 6);
    why(6, 0, 1, 7);
    rigIs(0, -1, 0, 3, 0, 1);
  }

  /** "A ten that goes by by day, while it stands at a place without a bay, is a breach." */
  private void breaches() {
    haul = new HeavyHaul();
    road(0, 0, 1, 0, 1);
    rig(0, 0);
    rig(1, 2);
    bay(0, 2, true);
    permit(1, 0, 0, 0, 300);
    pass(35, 35);
    rigIs(0, 0, -1, -1, 0, 0);
    // It drives in the last ten of the night, and stands at the first one of the day.
    drive(36, 0, 0);
    pass(36, 1);
    rigIs(0, 1, -1, 36, 0, 1);
    pass(37, 1);
    rigIs(0, 1, -1, 36, 1, 1);
    pass(38, 1);
    rigIs(0, 1, -1, 36, 2, 1);
    // With a bay none, and from when it has one.
    bay(0, 1, true);
    pass(142, 104);
    rigIs(0, 1, -1, 36, 2, 1);
    bay(1, 1, false);
    // The ten 143 is the last of the day.
    pass(143, 1);
    rigIs(0, 1, -1, 36, 3, 1);
    pass(144, 1);
    rigIs(0, 1, -1, 36, 4, 1);
    pass(180, 36);
    rigIs(0, 1, -1, 36, 4, 1);
    pass(181, 1);
    rigIs(0, 1, -1, 36, 5, 1);
    rigIs(1, 2, -1, -1, 0, 0);
    // A day and a night at once.
    pass(325, 144);
    rigIs(0, 1, -1, 36, 113, 1);
    due("a rig told now has none", 2, () -> haul.rig(0, 2, 1, 20, 40, 40, 0));
    rigIs(2, 0, -1, -1, 0, 0);
    pass(326, 1);
    rigIs(2, 0, -1, -1, 1, 0);
  }

  // The earliest arrival

  /** "ten itself to the same place". */
  private void arrivalAtTheSamePlace() {
    haul = new HeavyHaul();
    rig(0, 0);
    for (int place = 0; place < 10; place++) {
      arrives(0, 0, place, place, 0);
      arrives(50, 0, place, place, 50);
      arrives(9999, 0, place, place, 9999);
      arrives(-1, 0, place, 9 - place, 0);
    }
  }

  /** "at a place with a bay it may wait, at others not". */
  private void waitsInBaysAlone() {
    haul = new HeavyHaul();
    road(0, 0, 1, 0, 3);
    road(1, 1, 2, 1, 2);
    rig(0, 5);
    permit(1, 0, 0, 4, 9999);
    permit(2, 0, 1, 20, 9999);
    // At the first place: till its permit begins.
    arrives(-1, 0, 0, 1, 3);
    arrives(7, 0, 0, 1, 4);
    bay(0, 0, true);
    arrives(7, 0, 0, 1, 3);
    arrives(7, 0, 0, 1, 0);
    // Between two drives: it goes to and fro, and comes at 7, 13, 19, 25 at a place without one.
    bay(1, 0, false);
    arrives(27, 0, 0, 2, 4);
    bay(0, 1, true);
    arrives(22, 0, 0, 2, 4);
    arrives(22, 0, 1, 2, 0);
    arrives(-1, 0, 0, 2, 0);
    bay(1, 1, false);
    arrives(-1, 0, 1, 2, 0);
    // Where it arrives it needs none.
    arrives(22, 0, 1, 2, 20);
    // A bay elsewhere is none: it goes to the place 0 and back.
    bay(0, 7, true);
    bay(0, 2, true);
    arrives(27, 0, 1, 2, 19);
    arrives(22, 0, 1, 2, 14);
    // By day it waits for the next night, and never without a bay.
    arrives(-1, 0, 1, 2, 36);
    bay(0, 1, true);
    arrives(146, 0, 1, 2, 36);
    arrives(36, 0, 1, 2, 34);
    arrives(146, 0, 1, 2, 35);
  }

  /** "no drive .. counts that ends 288 or more tens behind the first one". */
  private void drivesEnd287TensBehind() {
    for (int tens = 1; tens <= 9; tens++) {
      haul = new HeavyHaul();
      road(0, 0, 1, 0, tens);
      rig(0, 5);
      bay(0, 0, true);
      permit(1, 0, 0, 300, 300 + tens);
      int last = 300 + tens - 287;
      arrives(300 + tens, 0, 0, 1, 300);
      arrives(300 + tens, 0, 0, 1, last);
      // It ends 288 tens behind the first one, and more, as long as it still begins before that.
      for (int beyond = 1; beyond <= tens; beyond++) {
        arrives(-1, 0, 0, 1, last - beyond);
      }
      arrives(-1, 0, 0, 1, 301);
      // Nor does one count that goes on from there.
      road(1, 1, 2, 1, 1);
      permit(2, 0, 1, 300 + tens, 301 + tens);
      arrives(-1, 0, 0, 2, last);
      arrives(301 + tens, 0, 0, 2, last + 1);
    }
  }

  /** "no waiting counts that ends 288 or more tens behind the first one". */
  private void waitingEnds287TensBehind() {
    haul = new HeavyHaul();
    road(0, 0, 1, 0, 1);
    rig(0, 5);
    bay(0, 0, true);
    permit(1, 0, 0, 288, 320);
    // The longest wait is of 286 tens, with the drive behind it.
    arrives(289, 0, 0, 1, 2);
    arrives(-1, 0, 0, 1, 1);
    arrives(-1, 0, 0, 1, 0);
    arrives(289, 0, 0, 1, 288);
    // Waiting before and between: all of it counts from the first ten.
    road(1, 1, 2, 1, 1);
    bay(0, 1, true);
    permit(2, 0, 1, 310, 320);
    arrives(-1, 0, 0, 2, 23);
    arrives(311, 0, 0, 2, 24);
    // Close to the end of time it is the same.
    permit(3, 0, 0, 9936, 9937);
    arrives(9937, 0, 0, 1, 9650);
    arrives(-1, 0, 0, 1, 9649);
    permit(4, 0, 0, 9960, 9999);
    arrives(9972, 0, 0, 1, 9971);
    arrives(-1, 0, 0, 1, 9972);
    arrives(-1, 0, 0, 1, 9999);
  }

  /** "found over all drives": at one ten the rig may be at both ends of a road. */
  private void arrivalBothWaysAtOnce() {
    // Whichever way round the road in the middle was told, and whichever end is the later one.
    for (int turn = 0; turn < 4; turn++) {
      haul = new HeavyHaul();
      road(0, 0, 1, 0, 2);
      road(1, 0, 2, 0, 2);
      road(2, turn % 2 == 0 ? 1 : 2, turn % 2 == 0 ? 2 : 1, 1, 3);
      road(3, turn / 2 == 0 ? 1 : 2, 3, 2, 1);
      rig(0, 0);
      permit(1, 0, 0, 0, 2);
      permit(2, 0, 1, 2, 5);
      permit(3, 0, 2, 5, 6);
      arrives(6, 0, 0, 3, 0);
      arrives(5, 0, 1, 2, 2);
      arrives(5, 0, 2, 1, 2);
    }
  }

  /** "over all drives .. that it may begin, by what is told now": none of the reasons is so. */
  private void arrivalByEachReason() {
    haul = new HeavyHaul();
    due("road", 0, () -> haul.road(0, 1, 0, 40, 40, 20, 2));
    int[][] sizes = {{20, 40, 40}, {20, 41, 40}, {20, 40, 41}, {21, 40, 40}};
    for (int each = 0; each < 4; each++) {
      int[] size = sizes[each];
      due("rig", each, () -> haul.rig(5, 2, 2, size[0], size[1], size[2], 8));
      permit(each + 1, each, 0, 0, 20);
      arrives(each == 0 ? 2 : -1, each, 0, 1, 0);
    }
    bridge(0, 0, 4, 7, 9999999);
    arrives(-1, 0, 0, 1, 0);
    bridge(1, 0, 4, 8, 7);
    arrives(-1, 0, 0, 1, 0);
    bridge(1, 0, 4, 8, 8);
    arrives(2, 0, 0, 1, 0);
    due("authority", 0, () -> authority(0, 0, 3));
    arrives(-1, 0, 0, 1, 0);
    due("authority", 0, () -> authority(0, 0, 4));
    arrives(20, 0, 0, 1, 18);
    arrives(-1, 0, 0, 1, 19);
    permit(5, 0, 0, 19, 300);
    due("embargo", 1, () -> haul.embargo(0, 8, 9));
    arrives(8, 0, 0, 1, 6);
    arrives(-1, 0, 0, 1, 7);
    arrives(-1, 0, 0, 1, 8);
    arrives(11, 0, 0, 1, 9);
    arrives(36, 0, 0, 1, 34);
    arrives(-1, 0, 0, 1, 35);
    arrives(-1, 0, 0, 1, 143);
    arrives(146, 0, 0, 1, 144);
    // What lets the others not drive at first is told otherwise.
    due("work", 1, () -> haul.work(0, 1, 1, 0, 3));
    arrives(2, 1, 0, 1, 0);
    arrives(3, 2, 0, 1, 1);
    arrives(-1, 1, 0, 1, 2);
    arrives(-1, 3, 0, 1, 0);
  }

  /** "other rigs left out": neither their drives nor where the rig itself is counts. */
  private void otherRigsLeftOut() {
    haul = new HeavyHaul();
    road(0, 0, 1, 0, 3);
    bridge(0, 0, 5, 10, 10);
    rig(0, 0);
    rig(1, 0);
    permit(1, 0, 0, 0, 20);
    permit(2, 1, 0, 0, 20);
    drive(3, 0, 0);
    refused("behind it", () -> haul.drive(1, 0));
    arrives(3, 1, 0, 1, 0);
    arrives(4, 1, 1, 0, 1);
    // The rig that drives is asked for from any place, and from tens that have passed.
    arrives(3, 0, 0, 1, 0);
    pass(2, 2);
    arrives(4, 0, 1, 0, 1);
    rigIs(0, -1, 0, 3, 0, 1);
    rigIs(1, 0, -1, -1, 0, 0);
    pass(3, 1);
    rigIs(0, 1, -1, 3, 0, 1);
  }

  // What is told of a rig

  /** "NONE if it drives", "NONE without". */
  private void rigIsNoneWithout() {
    haul = new HeavyHaul();
    road(0, 1, 2, 0, 1);
    road(1, 1, 2, 0, 4);
    rig(0, 1);
    permit(1, 0, 0, 0, 99);
    rigIs(0, 1, -1, -1, 0, 0);
    pass(1, 1);
    rigIs(0, 1, -1, -1, 0, 0);
    drive(5, 0, 1);
    rigIs(0, -1, 1, 5, 0, 1);
    pass(4, 3);
    rigIs(0, -1, 1, 5, 0, 1);
    pass(5, 1);
    // It arrived last at 5, however much later it is.
    rigIs(0, 2, -1, 5, 0, 1);
    pass(10, 5);
    rigIs(0, 2, -1, 5, 0, 1);
    drive(11, 0, 0);
    rigIs(0, -1, 0, 11, 0, 2);
    pass(11, 1);
    rigIs(0, 1, -1, 11, 0, 2);
  }
}
