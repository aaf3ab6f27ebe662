import java.util.ArrayList;
import java.util.Arrays;
import java.util.HashSet;
import java.util.List;
import java.util.Set;
import java.util.TreeSet;

/**
 * A second way to the same answers, written from the document by itself and with no care for speed:
 * sets of tens in place of bounds, every axle by itself, a search from state to state.
 */
final class SlowHaul {
  static final class SlowRoad {
    int[] ends;
    int authority;
    int width;
    int height;
    int bends;
    int tens;
    int[] bridge;
  }

  static final class SlowRig {
    int place;
    int road = -1;
    int arrival = -1;
    int breaches;
    int began;
    int apart;
    int length;
    int width;
    int height;
    int own;
    int load;
    int centre;
    int[] bears;
  }

  /** What is told for some tens: the tens, each by itself, and the numbers told. */
  static final class Told {
    final Set<Integer> tens = new HashSet<>();
    final int[] numbers;

    Told(int from, int to, int... numbers) {
      for (int ten = from; ten < to; ten++) {
        tens.add(ten);
      }
      this.numbers = numbers;
    }
  }

  final boolean[] bays = new boolean[10];
  final int[] notices = new int[4];
  final int[] mosts = {99999, 99999, 99999, 99999};
  final List<SlowRoad> roads = new ArrayList<>();
  final List<SlowRig> rigs = new ArrayList<>();
  final List<Told> works = new ArrayList<>();
  final List<Told> permits = new ArrayList<>();
  final List<Told> embargoes = new ArrayList<>();
  int now = 0;

  private static void index(boolean holds) {
    if (!holds) {
      throw new IndexOutOfBoundsException();
    }
  }

  private static void argument(boolean holds) {
    if (!holds) {
      throw new IllegalArgumentException();
    }
  }

  private static void state(boolean holds) {
    if (!holds) {
      throw new IllegalStateException();
    }
  }

  private static boolean in(long value, long least, long most) {
    return least <= value && value <= most;
  }

  boolean bay(int place, boolean is) {
    index(in(place, 0, 9));
    boolean had = bays[place];
    bays[place] = is;
    return had;
  }

  int road(int place, int other, int authority, int width, int height, int bends, int tens) {
    index(in(place, 0, 9) && in(other, 0, 9) && in(authority, 0, 3));
    argument(place != other && in(width, 20, 99) && in(height, 20, 99));
    argument(in(bends, 5, 99) && in(tens, 1, 9));
    state(roads.size() < 20);
    SlowRoad road = new SlowRoad();
    road.ends = new int[] {place, other};
    road.authority = authority;
    road.width = width;
    road.height = height;
    road.bends = bends;
    road.tens = tens;
    roads.add(road);
    return roads.size() - 1;
  }

  boolean bridge(int road, int span, int weight, int moment) {
    index(in(road, 0, roads.size() - 1));
    argument(in(span, 1, 40) && in(weight, 1, 999999) && in(moment, 1, 9999999));
    boolean had = roads.get(road).bridge != null;
    roads.get(road).bridge = new int[] {span, weight, moment};
    return had;
  }

  int work(int road, int wider, int higher, int from, int to) {
    index(in(road, 0, roads.size() - 1));
    argument(in(wider, 0, 50) && in(higher, 0, 50));
    argument(in(from, 0, 9999) && in(to, from + 1L, 9999));
    state(works.size() < 30);
    works.add(new Told(from, to, road, wider, higher));
    return works.size();
  }

  int rig(int place, int axles, int apart, int length, int width, int height, int weight) {
    index(in(place, 0, 9));
    argument(in(axles, 2, 16) && axles % 2 == 0 && in(apart, 1, 5) && in(length, 5, 99));
    argument(in(width, 20, 99) && in(height, 20, 99) && in(weight, 0, 99999));
    state(rigs.size() < 6);
    SlowRig rig = new SlowRig();
    rig.place = place;
    rig.apart = apart;
    rig.length = length;
    rig.width = width;
    rig.height = height;
    rig.own = weight;
    rig.bears = new int[axles];
    shareOut(rig);
    rigs.add(rig);
    return rigs.size() - 1;
  }

  /** The middle of a half, doubled: its first and its last axle's place added up. */
  private static int doubledMiddle(SlowRig rig, boolean isRear) {
    int half = rig.bears.length / 2;
    int first = isRear ? half : 0;
    return (first + first + half - 1) * rig.apart;
  }

  private static void shareOut(SlowRig rig) {
    int half = rig.bears.length / 2;
    int front = doubledMiddle(rig, false);
    int rear = doubledMiddle(rig, true);
    // Where the load stands between two points says what each of them bears.
    long onRear = (long) rig.load * (2 * rig.centre - front);
    long borneRear = rig.load == 0 ? 0 : Math.floorDiv(onRear, (long) (rear - front));
    for (int axle = 0; axle < rig.bears.length; axle++) {
      long borne = (axle < half ? rig.load - borneRear : borneRear) + rig.own / 2;
      rig.bears[axle] = (int) -Math.floorDiv(-borne, (long) half);
    }
  }

  void load(int rig, int weight, int centre) {
    index(in(rig, 0, rigs.size() - 1));
    argument(in(weight, 0, 200000) && in(centre, 0, 80));
    SlowRig under = rigs.get(rig);
    state(under.road == -1);
    int front = doubledMiddle(under, false);
    int rear = doubledMiddle(under, true);
    state(weight == 0 || in(2L * centre, front, rear));
    under.load = weight;
    under.centre = centre;
    shareOut(under);
  }

  int axle(int rig, int axle) {
    index(in(rig, 0, rigs.size() - 1));
    index(in(axle, 0, rigs.get(rig).bears.length - 1));
    return rigs.get(rig).bears[axle];
  }

  int greatest(int road, int rig, boolean isMoment) {
    index(in(road, 0, roads.size() - 1) && in(rig, 0, rigs.size() - 1));
    return greatest(roads.get(road), rigs.get(rig), isMoment);
  }

  private static int greatest(SlowRoad road, SlowRig rig, boolean isMoment) {
    if (road.bridge == null) {
      return -1;
    }
    int span = road.bridge[0];
    int greatest = 0;
    for (int head = 0; head < 200; head++) {
      int sum = 0;
      int at = head;
      for (int weight : rig.bears) {
        int arm = Math.min(at, span - at);
        if (arm >= 0) {
          sum += isMoment ? weight * arm : weight;
        }
        at -= rig.apart;
      }
      greatest = Math.max(greatest, sum);
    }
    return greatest;
  }

  void authority(int authority, int notice, int most) {
    index(in(authority, 0, 3));
    argument(in(notice, 0, 999) && in(most, 1, 99999));
    notices[authority] = notice;
    mosts[authority] = most;
  }

  int permit(int rig, int authority, int from, int to) {
    index(in(rig, 0, rigs.size() - 1) && in(authority, 0, 3));
    argument(in(from, 0, 9999) && in(to, from + 1L, 9999));
    state(from >= now + notices[authority] && permits.size() < 40);
    permits.add(new Told(from, to, rig, authority));
    return permits.size();
  }

  int embargo(int authority, int from, int to) {
    index(in(authority, 0, 3));
    argument(in(from, 0, 9999) && in(to, from + 1L, 9999));
    state(embargoes.size() < 20);
    embargoes.add(new Told(from, to, authority));
    return embargoes.size();
  }

  int why(int rig, int road, int ten) {
    index(in(rig, 0, rigs.size() - 1) && in(road, 0, roads.size() - 1));
    argument(in(ten, 0, 9999));
    return reason(rig, road, ten);
  }

  private int reason(int rigNumber, int roadNumber, int ten) {
    SlowRig rig = rigs.get(rigNumber);
    SlowRoad road = roads.get(roadNumber);
    List<Integer> tens = new ArrayList<>();
    for (int k = 0; k < road.tens; k++) {
      tens.add(ten + k);
    }
    int width = 0;
    int height = 0;
    for (Told work : works) {
      if (work.numbers[0] == roadNumber && work.tens.containsAll(tens)) {
        width = Math.max(width, work.numbers[1]);
        height = Math.max(height, work.numbers[2]);
      }
    }
    boolean isPermitted = false;
    for (Told permit : permits) {
      isPermitted |= permit.numbers[0] == rigNumber
          && permit.numbers[1] == road.authority
          && permit.tens.containsAll(tens);
    }
    boolean isEmbargoed = false;
    for (Told embargo : embargoes) {
      for (int one : tens) {
        isEmbargoed |= embargo.numbers[0] == road.authority && embargo.tens.contains(one);
      }
    }
    boolean isByDay = false;
    Set<Integer> nights = new TreeSet<>();
    for (int one : tens) {
      isByDay |= one % 144 >= 36;
      nights.add(one / 144);
    }
    boolean[] so = {
      false,
      rig.width > road.width + width,
      rig.height > road.height + height,
      rig.length > road.bends,
      road.bridge != null && (greatest(road, rig, false) > road.bridge[1]
          || greatest(road, rig, true) > road.bridge[2]),
      Arrays.stream(rig.bears).max().getAsInt() > mosts[road.authority],
      !isPermitted,
      isEmbargoed,
      isByDay || nights.size() > 1,
    };
    for (int number = 1; number <= 8; number++) {
      if (so[number]) {
        return number;
      }
    }
    return 0;
  }

  int drive(int rig, int road) {
    index(in(rig, 0, rigs.size() - 1) && in(road, 0, roads.size() - 1));
    SlowRig driver = rigs.get(rig);
    SlowRoad way = roads.get(road);
    state(driver.road == -1);
    state(driver.place == way.ends[0] || driver.place == way.ends[1]);
    state(reason(rig, road, now) == 0);
    for (SlowRig other : rigs) {
      state(way.bridge == null || other.road != road);
    }
    driver.road = road;
    driver.arrival = now + way.tens;
    driver.began++;
    return driver.arrival;
  }

  int arrives(int rig, int from, int to, int ten) {
    index(in(rig, 0, rigs.size() - 1) && in(from, 0, 9) && in(to, 0, 9));
    argument(in(ten, 0, 9999));
    // States, as ten * 10 + place: the least of those not yet looked at comes next.
    TreeSet<Integer> open = new TreeSet<>();
    open.add(ten * 10 + from);
    while (!open.isEmpty()) {
      int state = open.pollFirst();
      int place = state % 10;
      int at = state / 10;
      if (at - ten >= 288) {
        return -1;
      }
      if (place == to) {
        return at;
      }
      if (bays[place]) {
        open.add((at + 1) * 10 + place);
      }
      for (int road = 0; road < roads.size(); road++) {
        int[] ends = roads.get(road).ends;
        if ((ends[0] == place || ends[1] == place) && reason(rig, road, at) == 0) {
          open.add((at + roads.get(road).tens) * 10 + (ends[0] + ends[1] - place));
        }
      }
    }
    return -1;
  }

  int rigIs(int rig, int what) {
    index(in(rig, 0, rigs.size() - 1));
    argument(in(what, 0, 4));
    SlowRig asked = rigs.get(rig);
    int[] told = {
      asked.road == -1 ? asked.place : -1, asked.road, asked.arrival, asked.breaches, asked.began
    };
    return told[what];
  }

  int pass(int tens) {
    argument(in(tens, 1, 144));
    state(now + tens <= 9999);
    int end = now + tens;
    for (int ten = now; ten < end; ten++) {
      for (SlowRig rig : rigs) {
        arriveBy(rig, ten);
        if (rig.road == -1 && ten % 144 >= 36 && !bays[rig.place]) {
          rig.breaches++;
        }
      }
    }
    now = end;
    for (SlowRig rig : rigs) {
      arriveBy(rig, end);
    }
    return now;
  }

  private void arriveBy(SlowRig rig, int ten) {
    if (rig.road != -1 && rig.arrival <= ten) {
      int[] ends = roads.get(rig.road).ends;
      rig.place = ends[0] + ends[1] - rig.place;
      rig.road = -1;
    }
  }
}
