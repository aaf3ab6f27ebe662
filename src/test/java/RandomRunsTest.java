import java.util.TreeMap;

/** Long made-up runs, the same ones each time, against SlowHaul. */
final class RandomRunsTest {
  private static final int RUNS = 400;
  private static final int CALLS = 512;

  /** What must come up in the runs for them to say anything. */
  private static final String[] MUST_COME = {
    "bay 0", "bay 1", "bridge 0", "bridge 1",
    "road 19", "road IllegalStateException", "work 30", "work IllegalStateException",
    "rig 5", "rig IllegalStateException", "load IllegalStateException",
    "permit 40", "permit IllegalStateException", "embargo 20", "embargo IllegalStateException",
    "why 0", "why 1", "why 2", "why 3", "why 4", "why 5", "why 6", "why 7", "why 8",
    "drive IllegalStateException", "drive some", "arrives -1", "arrives some",
    "rigIs -1", "rigIs some", "pass some", "pass IllegalStateException",
  };

  private final Check check = new Check();
  private final TreeMap<String, Integer> came = new TreeMap<>();
  private long seed;
  private HeavyHaul fast;
  private SlowHaul slow;
  // In an easy run most drives may begin, so that rigs get about.
  private boolean isEasy;

  public static void main(String[] args) {
    RandomRunsTest test = new RandomRunsTest();
    for (int run = 0; run < RUNS && test.check.wrong() == 0; run++) {
      test.run(run);
    }
    if (args.length > 0) {
      test.came.forEach((what, count) -> System.out.println(count + " " + what));
    }
    for (String must : MUST_COME) {
      test.check.due("'" + must + "' came up", 1,
          () -> Check.number(test.came.containsKey(must)));
    }
    test.check.close("RandomRunsTest");
  }

  private int below(int bound) {
    seed = seed * 6364136223846793005L + 1442695040888963407L;
    return (int) ((seed >>> 33) % bound);
  }

  private int from(int least, int most) {
    return least + below(most - least + 1);
  }

  /** Mostly within the bounds, at times one beyond them, seldom far off. */
  private int near(int least, int most) {
    int kind = below(60);
    if (kind == 0) {
      return least - 1;
    }
    if (kind == 1) {
      return most + 1;
    }
    if (kind == 2) {
      return below(2) == 0 ? Integer.MIN_VALUE : Integer.MAX_VALUE;
    }
    return kind < 8 ? (kind % 2 == 0 ? least : most) : from(least, most);
  }

  private void run(int run) {
    seed = run * 7919L + 17;
    fast = new HeavyHaul();
    slow = new SlowHaul();
    int places = from(2, 7);
    // Some runs begin shortly before time ends, some tell up to the document's limits.
    boolean isLate = run % 8 == 0;
    isEasy = run % 4 >= 2;
    int toldUpTo = isLate ? 110 : run % 8 == 1 ? 450 : 40;
    for (int call = 0; call < CALLS && check.wrong() == 0; call++) {
      if (isLate && call < 69) {
        both(run, "pass", new int[] {144});
      } else if (call < toldUpTo) {
        tell(run, places);
      } else {
        go(run, places);
      }
    }
  }

  private int place(int places) {
    return below(40) == 0 ? near(0, 9) : below(places);
  }

  private int soon() {
    int ahead = below(isEasy ? 40 : 320);
    return Math.min(9999, slow.now + ahead);
  }

  private int later(int from) {
    int longest = isEasy ? 2000 : 250;
    return Math.min(9999, from + (below(30) == 0 ? below(2) : 1 + below(longest)));
  }

  private void tell(int run, int places) {
    int kind = below(20);
    if (kind < 2) {
      both(run, "bay", new int[] {place(places), below(3) == 0 ? 0 : 1});
    } else if (kind < 7) {
      int tight = below(3) == 0 ? 40 : 60;
      int least = isEasy ? 37 : 20;
      both(run, "road", new int[] {
        place(places), place(places), below(12) == 0 ? near(0, 3) : below(2),
        near(least, tight), near(least, tight), near(least, tight), near(1, 9)
      });
    } else if (kind < 9) {
      both(run, "bridge", new int[] {
        road(), near(1, 40), near(1, 999999) / from(1, isEasy ? 2 : 9),
        near(1, 9999999) / from(1, isEasy ? 2 : 9)
      });
    } else if (kind < 11) {
      int from = soon();
      both(run, "work", new int[] {
        road(), near(0, 50), near(0, 50), from, later(from)
      });
    } else if (kind < 13) {
      both(run, "rig", new int[] {
        place(places), near(2, 16) & ~(below(9) == 0 ? 0 : 1), near(1, 5),
        near(5, isEasy ? 40 : 50), near(20, isEasy ? 40 : 50), near(20, isEasy ? 40 : 50),
        near(0, 99999)
      });
    } else if (kind < 15) {
      int centre = below(4) == 0 ? near(0, 80) : below(25);
      both(run, "load", new int[] {rig(), near(0, 200000), centre});
    } else if (kind < 16) {
      both(run, "authority", new int[] {
        below(9) == 0 ? near(0, 3) : below(2), below(8) == 0 ? near(0, 999) : near(0, 9),
        below(isEasy ? 6 : 2) != 0 ? 99999 : near(1, 99999)
      });
    } else if (kind < 19) {
      int from = soon() + (below(20) == 0 ? -9 : 0);
      both(run, "permit", new int[] {
        rig(), below(9) == 0 ? near(0, 3) : below(2), from, later(from)
      });
    } else {
      int from = soon();
      both(run, "embargo", new int[] {
        below(9) == 0 ? near(0, 3) : below(2), from, from + 1 + below(9)
      });
    }
  }

  private int rig() {
    return near(0, Math.max(0, slow.rigs.size() - 1));
  }

  private int road() {
    return near(0, Math.max(0, slow.roads.size() - 1));
  }

  private void go(int run, int places) {
    int kind = below(20);
    if (kind < 4) {
      tell(run, places);
    } else if (kind < 6) {
      both(run, "axle", new int[] {rig(), near(0, 15)});
    } else if (kind < 8) {
      both(run, "greatest", new int[] {road(), rig(), below(2)});
    } else if (kind < 9) {
      both(run, "greatestAnew", new int[] {road(), rig(), below(2)});
    } else if (kind < 12) {
      both(run, "why", new int[] {rig(), road(), below(9) == 0 ? near(0, 9999) : soon()});
    } else if (kind < 14) {
      both(run, "drive", driveMostlyFit());
    } else if (kind < 16) {
      both(run, "arrives", new int[] {
        rig(), place(places), place(places), below(9) == 0 ? near(0, 9999) : soon()
      });
    } else if (kind < 18) {
      both(run, "rigIs", new int[] {rig(), near(0, 4)});
    } else {
      boolean isDay = slow.now % 144 >= 36;
      int toDusk = 144 - slow.now % 144;
      both(run, "pass", new int[] {
        isDay && below(3) != 0 ? toDusk : below(6) == 0 ? near(1, 144) : from(1, 12)
      });
    }
  }

  /** A drive that may begin, if there is one and luck wants it. */
  private int[] driveMostlyFit() {
    if (below(4) != 0) {
      for (int rig = 0; rig < slow.rigs.size(); rig++) {
        for (int road = 0; road < slow.roads.size(); road++) {
          if (slow.why(rig, road, slow.now) == 0 && below(3) == 0) {
            return new int[] {rig, road};
          }
        }
      }
    }
    return new int[] {rig(), road()};
  }

  private void both(int run, String name, int[] a) {
    String want = Check.told(() -> onSlow(name, a));
    String got = Check.told(() -> onFast(name, a));
    StringBuilder call = new StringBuilder("run " + run + ": " + name);
    for (int one : a) {
      call.append(' ').append(one);
    }
    check.same(call.toString(), want, got);
    came.merge(name + " " + want, 1, Integer::sum);
    if (!want.contains("Exception") && !want.equals("-1")) {
      came.merge(name + " some", 1, Integer::sum);
    }
  }

  private long onSlow(String name, int[] a) {
    switch (name) {
      case "bay": return Check.number(slow.bay(a[0], a[1] == 1));
      case "road": return slow.road(a[0], a[1], a[2], a[3], a[4], a[5], a[6]);
      case "bridge": return Check.number(slow.bridge(a[0], a[1], a[2], a[3]));
      case "work": return slow.work(a[0], a[1], a[2], a[3], a[4]);
      case "rig": return slow.rig(a[0], a[1], a[2], a[3], a[4], a[5], a[6]);
      case "load": slow.load(a[0], a[1], a[2]); return 0;
      case "axle": return slow.axle(a[0], a[1]);
      case "greatest":
      case "greatestAnew": return slow.greatest(a[0], a[1], a[2] == 1);
      case "authority": slow.authority(a[0], a[1], a[2]); return 0;
      case "permit": return slow.permit(a[0], a[1], a[2], a[3]);
      case "embargo": return slow.embargo(a[0], a[1], a[2]);
      case "why": return slow.why(a[0], a[1], a[2]);
      case "drive": return slow.drive(a[0], a[1]);
      case "arrives": return slow.arrives(a[0], a[1], a[2], a[3]);
      case "rigIs": return slow.rigIs(a[0], a[1]);
      default: return slow.pass(a[0]);
    }
  }

  private long onFast(String name, int[] a) {
    switch (name) {
      case "bay": return Check.number(fast.bay(a[0], a[1] == 1));
      case "road": return fast.road(a[0], a[1], a[2], a[3], a[4], a[5], a[6]);
      case "bridge": return Check.number(fast.bridge(a[0], a[1], a[2], a[3]));
      case "work": return fast.work(a[0], a[1], a[2], a[3], a[4]);
      case "rig": return fast.rig(a[0], a[1], a[2], a[3], a[4], a[5], a[6]);
      case "load": fast.load(a[0], a[1], a[2]); return 0;
      case "axle": return fast.axle(a[0], a[1]);
      case "greatest": return fast.greatest(a[0], a[1], a[2] == 1);
      case "greatestAnew": return fast.greatestAnew(a[0], a[1], a[2] == 1);
      case "authority": fast.authority(a[0], a[1], a[2]); return 0;
      case "permit": return fast.permit(a[0], a[1], a[2], a[3]);
      case "embargo": return fast.embargo(a[0], a[1], a[2]);
      case "why": return fast.why(a[0], a[1], a[2]);
      case "drive": return fast.drive(a[0], a[1]);
      case "arrives": return fast.arrives(a[0], a[1], a[2], a[3]);
      case "rigIs": return fast.rigIs(a[0], a[1]);
      default: return fast.pass(a[0]);
    }
  }
}
