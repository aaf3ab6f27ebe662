import java.util.ArrayList;
import java.util.Arrays;

/**
 * Loads that the road was not built for: rigs whose axles share a weight by where its centre lies,
 * bridges that are proved step by step, signs taken down and wires lifted for some hours, permits
 * of authorities with notice, embargoes, nights that end at dawn, bays where one can wait, and the
 * earliest arrival by all that is told.
 */
public final class HeavyHaul {
  /** There is none. */
  public static final int NONE = -1;

  private static final int PLACES = 10;
  private static final int AUTHORITIES = 4;
  private static final int MOST_ROADS = 20;
  private static final int MOST_WORKS = 30;
  private static final int MOST_RIGS = 6;
  private static final int MOST_PERMITS = 40;
  private static final int MOST_EMBARGOES = 20;
  private static final int LAST_TEN = 9999;
  private static final int DAY = 144;
  private static final int NIGHT = 36;
  private static final int HORIZON = 288;

  private static final int TOO_WIDE = 1;
  private static final int TOO_HIGH = 2;
  private static final int TOO_LONG = 3;
  private static final int NOT_BORNE = 4;
  private static final int AXLE_TOO_HEAVY = 5;
  private static final int NOT_PERMITTED = 6;
  private static final int EMBARGOED = 7;
  private static final int NOT_BY_NIGHT = 8;

  private final boolean[] bays = new boolean[PLACES];
  private final int[] notices = new int[AUTHORITIES];
  private final int[] mostOfAxles = new int[AUTHORITIES];
  private final ArrayList<Road> roads = new ArrayList<>();
  private final ArrayList<Work> works = new ArrayList<>();
  private final ArrayList<Rig> rigs = new ArrayList<>();
  private final ArrayList<Permit> permits = new ArrayList<>();
  private final ArrayList<Embargo> embargoes = new ArrayList<>();
  // For each ten of a search, a bit for each place where the rig can be then. Kept, since a search
  // that made it anew would fill the room of a run.
  private final int[] reached = new int[HORIZON];
  private int now = 0;

  /** No roads and rigs. */
  public HeavyHaul() {
    Arrays.fill(mostOfAxles, 99999);
  }

  // ---- roads

  /** Tells whether a place has a bay. Returns whether it had. */
  public boolean bay(int place, boolean is) throws IndexOutOfBoundsException {
    needNumber(place, PLACES);
    boolean had = bays[place];
    bays[place] = is;
    return had;
  }

  /** Tells a road. Returns its number. */
  public int road(int place, int other, int authority, int width, int height, int bends, int tens)
      throws IndexOutOfBoundsException, IllegalArgumentException, IllegalStateException {
    needNumber(place, PLACES);
    needNumber(other, PLACES);
    needNumber(authority, AUTHORITIES);
    if (place == other) {
      throw new IllegalArgumentException("both places are the same");
    }
    needRange(width, 20, 99);
    needRange(height, 20, 99);
    needRange(bends, 5, 99);
    needRange(tens, 1, 9);
    needRoom(roads.size(), MOST_ROADS);
    roads.add(new Road(place, other, authority, width, height, bends, tens));
    return roads.size() - 1;
  }

  /** Tells a bridge of a road, in place of what was told. Returns whether there was one. */
  public boolean bridge(int road, int span, int weight, int moment)
      throws IndexOutOfBoundsException, IllegalArgumentException {
    Road under = roadOf(road);
    needRange(span, 1, 40);
    needRange(weight, 1, 999999);
    needRange(moment, 1, 9999999);
    boolean had = under.hasBridge();
    under.span = span;
    under.mostWeight = weight;
    under.mostMoment = moment;
    return had;
  }

  /** Tells a work. Returns how many there are. */
  public int work(int road, int wider, int higher, int from, int to)
      throws IndexOutOfBoundsException, IllegalArgumentException, IllegalStateException {
    needNumber(road, roads.size());
    needRange(wider, 0, 50);
    needRange(higher, 0, 50);
    needPeriod(from, to);
    needRoom(works.size(), MOST_WORKS);
    works.add(new Work(road, wider, higher, new Period(from, to)));
    return works.size();
  }

  // ---- rigs

  /** Tells a rig, that stands at a place. Returns its number. */
  public int rig(int place, int axles, int apart, int length, int width, int height, int weight)
      throws IndexOutOfBoundsException, IllegalArgumentException, IllegalStateException {
    needNumber(place, PLACES);
    needRange(axles, 2, 16);
    if (axles % 2 != 0) {
      throw new IllegalArgumentException("the axles are not even");
    }
    needRange(apart, 1, 5);
    needRange(length, 5, 99);
    needRange(width, 20, 99);
    needRange(height, 20, 99);
    needRange(weight, 0, 99999);
    needRoom(rigs.size(), MOST_RIGS);
    Rig added = new Rig(place, axles, apart, length, width, height, weight);
    added.take(0, 0);
    rigs.add(added);
    return rigs.size() - 1;
  }

  /** Puts a load on a rig, in place of what it had. */
  public void load(int rig, int weight, int centre)
      throws IndexOutOfBoundsException, IllegalArgumentException, IllegalStateException {
    Rig under = rigOf(rig);
    needRange(weight, 0, 200000);
    needRange(centre, 0, 80);
    if (under.isDriving()) {
      throw new IllegalStateException("the rig drives");
    }
    if (!under.canTake(weight, centre)) {
      throw new IllegalStateException("the centre is not between the halves");
    }
    under.take(weight, centre);
  }

  /** Returns what an axle bears. */
  public int axle(int rig, int axle) throws IndexOutOfBoundsException {
    Rig asked = rigOf(rig);
    needNumber(axle, asked.axles);
    return asked.weightOf(axle);
  }

  /** Returns the greatest weight, or moment, that a bridge has with a rig going over it. */
  public int greatest(int road, int rig, boolean isMoment) throws IndexOutOfBoundsException {
    return greatestOver(roadOf(road), rigOf(rig), isMoment, false);
  }

  /** Returns the same, found with the rig going backward. */
  public int greatestAnew(int road, int rig, boolean isMoment) throws IndexOutOfBoundsException {
    return greatestOver(roadOf(road), rigOf(rig), isMoment, true);
  }

  // ---- authorities

  /** Sets the notice of an authority, and the most weight for an axle. */
  public void authority(int authority, int notice, int most)
      throws IndexOutOfBoundsException, IllegalArgumentException {
    needNumber(authority, AUTHORITIES);
    needRange(notice, 0, 999);
    needRange(most, 1, 99999);
    notices[authority] = notice;
    mostOfAxles[authority] = most;
  }

  /** Gives a permit. Returns how many there are. */
  public int permit(int rig, int authority, int from, int to)
      throws IndexOutOfBoundsException, IllegalArgumentException, IllegalStateException {
    needNumber(rig, rigs.size());
    needNumber(authority, AUTHORITIES);
    needPeriod(from, to);
    if (from < now + notices[authority]) {
      throw new IllegalStateException("the notice is too short");
    }
    needRoom(permits.size(), MOST_PERMITS);
    permits.add(new Permit(rig, authority, new Period(from, to)));
    return permits.size();
  }

  /** Tells an embargo. Returns how many there are. */
  public int embargo(int authority, int from, int to)
      throws IndexOutOfBoundsException, IllegalArgumentException, IllegalStateException {
    needNumber(authority, AUTHORITIES);
    needPeriod(from, to);
    needRoom(embargoes.size(), MOST_EMBARGOES);
    embargoes.add(new Embargo(authority, new Period(from, to)));
    return embargoes.size();
  }

  // ---- drives

  /** Tells why a rig may not begin a drive on a road at a ten: the first reason; 0 if it may. */
  public int why(int rig, int road, int ten)
      throws IndexOutOfBoundsException, IllegalArgumentException {
    needNumber(rig, rigs.size());
    needNumber(road, roads.size());
    needRange(ten, 0, LAST_TEN);
    return reasonAgainst(rig, road, ten);
  }

  /** Lets a rig drive. Returns the ten at which it arrives. */
  public int drive(int rig, int road) throws IndexOutOfBoundsException, IllegalStateException {
    Rig driver = rigOf(rig);
    Road way = roadOf(road);
    if (driver.isDriving()) {
      throw new IllegalStateException("the rig drives");
    }
    if (!way.endsAt(driver.place)) {
      throw new IllegalStateException("the rig does not stand at an end of the road");
    }
    if (reasonAgainst(rig, road, now) != 0) {
      throw new IllegalStateException("the rig may not begin the drive");
    }
    if (way.hasBridge() && isAnyRigOn(road)) {
      throw new IllegalStateException("another rig is on the road with the bridge");
    }
    driver.setOut(road, way.endBeyond(driver.place), now + way.tens);
    return driver.arrival;
  }

  /** Returns the earliest arrival; NONE without. */
  public int arrives(int rig, int from, int to, int ten)
      throws IndexOutOfBoundsException, IllegalArgumentException {
    needNumber(rig, rigs.size());
    needNumber(from, PLACES);
    needNumber(to, PLACES);
    needRange(ten, 0, LAST_TEN);
    Arrays.fill(reached, 0);
    reached[0] = 1 << from;
    int fit = roadsFitFor(rigOf(rig));
    int withBay = placesWithBay();
    for (int gone = 0; gone < HORIZON; gone++) {
      int here = reached[gone];
      if ((here >> to & 1) == 1) {
        return ten + gone;
      }
      reach(gone + 1, here & withBay);
      if (here != 0) {
        driveOn(rig, fit, here, ten, gone);
      }
    }
    return NONE;
  }

  /** Tells of a rig: 0 place, 1 road, 2 arrival, 3 breaches, 4 drives that it began. */
  public int rigIs(int rig, int what) throws IndexOutOfBoundsException, IllegalArgumentException {
    Rig asked = rigOf(rig);
    needRange(what, 0, 4);
    switch (what) {
      case 0:
        return asked.isDriving() ? NONE : asked.place;
      case 1:
        return asked.road;
      case 2:
        return asked.arrival;
      case 3:
        return asked.breaches;
      default:
        return asked.drives;
    }
  }

  /** Lets tens pass. Returns the ten then. */
  public int pass(int tens) throws IllegalArgumentException, IllegalStateException {
    needRange(tens, 1, DAY);
    if (now + tens > LAST_TEN) {
      throw new IllegalStateException("time ends");
    }
    for (int gone = 0; gone < tens; gone++) {
      letTenGoBy();
    }
    return now;
  }

  // What arguments must be

  private static void needNumber(int number, int count) {
    if (number < 0 || number >= count) {
      throw new IndexOutOfBoundsException("there is no such number");
    }
  }

  private static void needRange(int value, int least, int most) {
    if (value < least || value > most) {
      throw new IllegalArgumentException("an argument is out of range");
    }
  }

  private static void needPeriod(int from, int to) {
    needRange(from, 0, LAST_TEN);
    needRange(to, from + 1, LAST_TEN);
  }

  private static void needRoom(int count, int most) {
    if (count >= most) {
      throw new IllegalStateException("there are as many as there may be");
    }
  }

  private Road roadOf(int number) {
    needNumber(number, roads.size());
    return roads.get(number);
  }

  private Rig rigOf(int number) {
    needNumber(number, rigs.size());
    return rigs.get(number);
  }

  // Bridges

  private static int greatestOver(Road road, Rig rig, boolean isMoment, boolean isBackward) {
    if (!road.hasBridge()) {
      return NONE;
    }
    int greatest = 0;
    int lastStep = road.span + (rig.axles - 1) * rig.apart;
    for (int step = 0; step <= lastStep; step++) {
      int found = sumAtStep(road.span, rig, step, isMoment, isBackward);
      greatest = Math.max(greatest, found);
    }
    return greatest;
  }

  private static int sumAtStep(
      int span, Rig rig, int step, boolean isMoment, boolean isBackward) {
    int sum = 0;
    for (int behind = 0; behind < rig.axles; behind++) {
      int at = step - behind * rig.apart;
      if (at >= 0 && at <= span) {
        int weight = rig.weightOf(isBackward ? rig.axles - 1 - behind : behind);
        sum += isMoment ? weight * Math.min(at, span - at) : weight;
      }
    }
    return sum;
  }

  private static boolean isBorne(Road road, Rig rig) {
    return !road.hasBridge()
        || (greatestOver(road, rig, false, false) <= road.mostWeight
            && greatestOver(road, rig, true, false) <= road.mostMoment);
  }

  // Why a drive may not begin

  private int reasonAgainst(int rig, int road, int ten) {
    int ofSize = sizeReason(rig, road, ten);
    if (ofSize != 0) {
      return ofSize;
    }
    int lasting = lastingReason(rigOf(rig), roadOf(road));
    return lasting != 0 ? lasting : leaveReason(rig, road, ten);
  }

  private int sizeReason(int rig, int road, int ten) {
    Rig driver = rigOf(rig);
    Road way = roadOf(road);
    int end = ten + way.tens;
    if (driver.width > way.width + gainByWorks(road, false, ten, end)) {
      return TOO_WIDE;
    }
    return driver.height > way.height + gainByWorks(road, true, ten, end) ? TOO_HIGH : 0;
  }

  /** The first of the reasons that are the same at every ten. */
  private int lastingReason(Rig rig, Road road) {
    if (rig.length > road.bends) {
      return TOO_LONG;
    }
    if (!isBorne(road, rig)) {
      return NOT_BORNE;
    }
    return rig.heaviestAxle() > mostOfAxle(road.authority) ? AXLE_TOO_HEAVY : 0;
  }

  private int mostOfAxle(int authority) {
    return authority >= 0 && authority < AUTHORITIES ? mostOfAxles[authority] : 0;
  }

  private int leaveReason(int rig, int road, int ten) {
    Road way = roadOf(road);
    int end = ten + way.tens;
    if (!isPermitted(rig, way.authority, ten, end)) {
      return NOT_PERMITTED;
    }
    if (isEmbargoed(way.authority, ten, end)) {
      return EMBARGOED;
    }
    return isOfOneNight(ten, way.tens) ? 0 : NOT_BY_NIGHT;
  }

  private int gainByWorks(int road, boolean isHeight, int first, int end) {
    int most = 0;
    for (int i = 0; i < works.size(); i++) {
      Work work = works.get(i);
      if (work.road == road && work.period.hasAll(first, end)) {
        most = Math.max(most, isHeight ? work.higher : work.wider);
      }
    }
    return most;
  }

  private boolean isPermitted(int rig, int authority, int first, int end) {
    for (int i = 0; i < permits.size(); i++) {
      Permit permit = permits.get(i);
      if (permit.rig == rig
          && permit.authority == authority
          && permit.period.hasAll(first, end)) {
        return true;
      }
    }
    return false;
  }

  private boolean isEmbargoed(int authority, int first, int end) {
    for (int i = 0; i < embargoes.size(); i++) {
      Embargo embargo = embargoes.get(i);
      if (embargo.authority == authority && embargo.period.hasAny(first, end)) {
        return true;
      }
    }
    return false;
  }

  private static boolean isOfOneNight(int ten, int tens) {
    return ten % DAY + tens <= NIGHT;
  }

  // Drives and time

  private boolean isAnyRigOn(int road) {
    for (int i = 0; i < rigs.size(); i++) {
      if (rigs.get(i).road == road) {
        return true;
      }
    }
    return false;
  }

  private void letTenGoBy() {
    boolean isByDay = now % DAY >= NIGHT;
    now++;
    for (int i = 0; i < rigs.size(); i++) {
      Rig rig = rigs.get(i);
      if (rig.isDriving()) {
        rig.standIfArrived(now);
      } else if (isByDay && !hasBay(rig.place)) {
        rig.breaches++;
      }
    }
  }

  private boolean hasBay(int place) {
    return place >= 0 && place < PLACES && bays[place];
  }

  // The earliest arrival

  /** Marks where each drive ends that begins at these places, so many tens behind the first one. */
  private void driveOn(int rig, int fit, int here, int first, int gone) {
    for (int i = 0; i < roads.size(); i++) {
      Road road = roads.get(i);
      int beyond = placesBeyond(road, here);
      boolean isFit = (fit >> i & 1) == 1;
      if (beyond != 0 && isFit && isOpen(rig, i, first + gone)) {
        reach(gone + road.tens, beyond);
      }
    }
  }

  /** Whether none of the reasons is so that change from ten to ten. */
  private boolean isOpen(int rig, int road, int ten) {
    // By day, where most tens are, this spares the rest.
    return isOfOneNight(ten, roadOf(road).tens)
        && sizeReason(rig, road, ten) == 0
        && leaveReason(rig, road, ten) == 0;
  }

  private void reach(int gone, int places) {
    if (gone >= 0 && gone < HORIZON) {
      reached[gone] |= places;
    }
  }

  /** The ends of a road, as bits, whose other end is among the places. */
  private static int placesBeyond(Road road, int places) {
    int beyond = 0;
    if ((places >> road.place & 1) == 1) {
      beyond |= 1 << road.other;
    }
    if ((places >> road.other & 1) == 1) {
      beyond |= 1 << road.place;
    }
    return beyond;
  }

  /** The roads, as bits, against which no lasting reason is so: a proof is dear, a bit is not. */
  private int roadsFitFor(Rig rig) {
    int fit = 0;
    for (int i = 0; i < roads.size(); i++) {
      if (lastingReason(rig, roads.get(i)) == 0) {
        fit |= 1 << i;
      }
    }
    return fit;
  }

  private int placesWithBay() {
    int places = 0;
    for (int place = 0; place < PLACES; place++) {
      if (hasBay(place)) {
        places |= 1 << place;
      }
    }
    return places;
  }

  /** Tens from one up to another one, that one not with it. */
  private static final class Period {
    final int from;
    final int to;

    Period(int from, int to) {
      this.from = from;
      this.to = to;
    }

    boolean hasAll(int first, int end) {
      return from <= first && end <= to;
    }

    boolean hasAny(int first, int end) {
      return from < end && first < to;
    }
  }

  private static final class Road {
    final int place;
    final int other;
    final int authority;
    final int width;
    final int height;
    final int bends;
    final int tens;
    // 0 while there is no bridge.
    int span;
    int mostWeight;
    int mostMoment;

    Road(int place, int other, int authority, int width, int height, int bends, int tens) {
      this.place = place;
      this.other = other;
      this.authority = authority;
      this.width = width;
      this.height = height;
      this.bends = bends;
      this.tens = tens;
    }

    boolean hasBridge() {
      return span > 0;
    }

    boolean endsAt(int end) {
      return end == place || end == other;
    }

    int endBeyond(int end) {
      return end == place ? other : place;
    }
  }

  private static final class Work {
    final int road;
    final int wider;
    final int higher;
    final Period period;

    Work(int road, int wider, int higher, Period period) {
      this.road = road;
      this.wider = wider;
      this.higher = higher;
      this.period = period;
    }
  }

  private static final class Permit {
    final int rig;
    final int authority;
    final Period period;

    Permit(int rig, int authority, Period period) {
      this.rig = rig;
      this.authority = authority;
      this.period = period;
    }
  }

  private static final class Embargo {
    final int authority;
    final Period period;

    Embargo(int authority, Period period) {
      this.authority = authority;
      this.period = period;
    }
  }

  private static final class Rig {
    final int axles;
    final int apart;
    final int length;
    final int width;
    final int height;
    final int weight;
    // What each axle of a half bears.
    int frontAxle;
    int rearAxle;
    // While it drives, the place where it will stand.
    int place;
    int road = NONE;
    int arrival = NONE;
    int breaches;
    int drives;

    Rig(int place, int axles, int apart, int length, int width, int height, int weight) {
      this.place = place;
      this.axles = axles;
      this.apart = apart;
      this.length = length;
      this.width = width;
      this.height = height;
      this.weight = weight;
    }

    boolean canTake(int load, int centre) {
      return load == 0 || (leverOf(centre) >= 0 && leverOf(centre) <= base());
    }

    /** How far the centre is behind the middle of the front half, doubled. */
    private int leverOf(int centre) {
      return 2 * centre - (axles / 2 - 1) * apart;
    }

    /** How far the middles of the halves are from one another, doubled. */
    private int base() {
      return axles * apart;
    }

    void take(int load, int centre) {
      int base = base();
      int rear = base > 0 ? load * leverOf(centre) / base : 0;
      frontAxle = share(load - rear);
      rearAxle = share(rear);
    }

    private int share(int ofLoad) {
      int among = axles / 2;
      int borne = ofLoad + weight / 2;
      return among > 0 ? (borne + among - 1) / among : 0;
    }

    int weightOf(int axle) {
      return axle < axles / 2 ? frontAxle : rearAxle;
    }

    int heaviestAxle() {
      return Math.max(frontAxle, rearAxle);
    }

    boolean isDriving() {
      return road != NONE;
    }

    void setOut(int onto, int towards, int arrivalThere) {
      road = onto;
      place = towards;
      arrival = arrivalThere;
      drives++;
    }

    void standIfArrived(int ten) {
      if (ten >= arrival) {
        road = NONE;
      }
    }
  }
}
