/** Promises 34 to 36, sentence by sentence, and the Terms' on chances and LOTS. */
final class EdgeChanceTests {
  private static final String CROWD = "n12340a050g130y002s110l0504l0701l1202l1500l0331";

  public static void main(String[] args) throws Exception {
    Edge.run(EdgeChanceTests.class);
  }

  // ---- the Terms

  @Holds(promise = 0, words = "Chances, means are told by upper(), lower(), in lowest terms")
  static void inLowestTerms() {
    int[] upper = {1, 11, 5, 3, 2, 7, 1, 5, 1, 1, 1, 1};
    int[] lower = {1, 12, 6, 4, 3, 12, 2, 12, 3, 4, 6, 12};
    SmellBurdens x = Due.with("n10000a150l1501");
    for (int p = 0; p < 12; p++) {
      Edge.fraction("odds(0, " + p + ")", x, x.odds(0, p), upper[p], lower[p]);
      Edge.fraction("mid(" + p + ")", x, x.mid(p), upper[p], lower[p]);
    }
    SmellBurdens y = Due.with("n00000a150a150a150a150l1504");
    Edge.fraction("halves of four", y, y.odds(0, 6), 15, 16);
  }

  @Holds(promise = 0, words = "the lower number above 0 (0 by 1).")
  static void noughtIs0By1() {
    SmellBurdens x = Due.with("n10000a150l1501");
    x.odds(0, 5);
    Edge.fraction("odds(0, 12)", x, x.odds(0, 12), 0, 1);
    x.odds(0, 5);
    Edge.fraction("mid(12)", x, x.mid(12), 0, 1);
    SmellBurdens y = Due.with("n00000a150a150a150a150l1504l1500");
    Edge.fraction("at its HOME", y, y.odds(1, 1), 0, 1);
    Edge.is("before any", new SmellBurdens().lower(), 1);
  }

  /** The n-th number of a seed, by sums alone: 48271 times the one ahead, each sum cut to below the modulus. */
  private static long lot(long seed, int n) {
    long modulus = 2147483647L;
    long it = seed;
    for (int k = 0; k < n; k++) {
      long next = 0;
      for (int bit = 16; bit >= 0; bit--) {
        next = (next + next) % modulus;
        next = (48271 >> bit & 1) == 1 ? (next + it) % modulus : next;
      }
      it = next;
    }
    return it;
  }

  /** Does by single calls what lots() should do; a lead to where it is changes nothing. */
  private static void byHand(SmellBurdens y, long it, int asses, int loads) {
    switch ((int) (it / 8 % 4)) {
      case 0:
        y.smear((int) (it % loads), (int) (it / 64 % 4));
        break;
      case 1:
        y.lead((int) (it % asses), (int) (it / 64 % 5));
        break;
      default:
        y.day();
    }
  }

  private static void sameInnsMarksMemories(String call, SmellBurdens x, SmellBurdens y, int asses, int loads) {
    for (int i = 0; i < asses; i++) {
      for (int what = 1; what <= 2; what++) {
        y.ass(i, what);
        Edge.told(call + ": ass(" + i + ", " + what + ")", x, x.ass(i, what), y.asked());
      }
    }
    for (int l = 0; l < loads; l++) {
      for (int what = 0; what <= 1; what++) {
        y.load(l, what);
        Edge.told(call + ": load(" + l + ", " + what + ")", x, x.load(l, what), y.asked());
      }
    }
  }

  @Holds(promise = 0, words = "a number comes from the one ahead by 48271 times it modulo 2147483647, the first from a seed (1 .. 2147483646).")
  static void lotsOfTheFirstAndTheLastSeed() {
    Edge.is("the first of 1", lot(1, 1), 48271);
    Edge.is("the second of 1", lot(1, 2), 182605794);
    Edge.is("the first of the last", lot(2147483646L, 1), 2147435376);
    int[] seeds = {1, 2, 77, 44488, 44489, 1073741823, 1073741824, 2147483645, 2147483646};
    for (int seed : seeds) {
      SmellBurdens x = Due.with(CROWD);
      SmellBurdens y = Due.with(CROWD);
      for (int n = 1; n <= 20; n++) {
        byHand(y, lot(seed, n), 4, 5);
      }
      Edge.is("lots(20, " + seed + ")", x.lots(20, seed), Integer.bitCount(y.count(4)));
      Edge.is("DAYS by " + seed, x.count(2), y.count(2));
      sameInnsMarksMemories("seed " + seed, x, y, 4, 5);
    }
  }

  // ---- 34

  @Holds(promise = 34, words = "Chances that a LOAD is taken today, if each ASS sleeps (TAKES none) by p (0 .. 12) of 12, each by itself: 1.")
  static void nobodySleepsAndAllSleep() {
    SmellBurdens x = Due.with("n00000a150a150a150a150l1504l1504l1504l1504l1504");
    for (int l = 0; l < 5; l++) {
      Edge.fraction("odds(" + l + ", 0)", x, x.odds(l, 0), l < 4 ? 1 : 0, 1);
      Edge.fraction("odds(" + l + ", 12)", x, x.odds(l, 12), 0, 1);
    }
  }

  @Holds(promise = 34, words = "if each ASS sleeps (TAKES none) by p (0 .. 12) of 12, each by itself: 1.")
  static void eachOfFourSleepsByItself() {
    SmellBurdens x = Due.with("n00000a150a150a150a150l1504l1504l1504l1504");
    // 1 - (11/12)^4; all four awake, (1/12)^4
    Edge.fraction("odds(0, 11)", x, x.odds(0, 11), 6095, 20736);
    Edge.fraction("odds(3, 11)", x, x.odds(3, 11), 1, 20736);
    // 1 - (1/12)^4; (11/12)^4
    Edge.fraction("odds(0, 1)", x, x.odds(0, 1), 20735, 20736);
    Edge.fraction("odds(3, 1)", x, x.odds(3, 1), 14641, 20736);
    // by halves: at least two, at least three of four
    Edge.fraction("odds(1, 6)", x, x.odds(1, 6), 11, 16);
    Edge.fraction("odds(2, 6)", x, x.odds(2, 6), 5, 16);
  }

  @Holds(promise = 34, words = "if each ASS sleeps (TAKES none)")
  static void whoSleepsLeavesItToAnother() {
    // the MULE takes LOAD 0 only if ASS 0 sleeps; LOAD 1 is taken by nobody but ASS 2
    SmellBurdens x = Due.with("n00000a150m150a070l1504l0704");
    Edge.fraction("odds(0, 6): ASS 0, the MULE, or both", x, x.odds(0, 6), 3, 4);
    Edge.fraction("odds(1, 6): ASS 2", x, x.odds(1, 6), 1, 2);
    Edge.fraction("odds(0, 3): not both asleep", x, x.odds(0, 3), 15, 16);
  }

  @Holds(promise = 34, words = "Chances that a LOAD is taken today")
  static void aLoadThatIsNeverTaken() {
    SmellBurdens x = Due.with("n00000a150m150l1500l0004l1514");
    for (int l = 0; l < 3; l++) {
      x.odds(0, 0);
      Edge.fraction("odds(" + l + ", 5)", x, x.odds(l, 5), 0, 1);
    }
  }

  @Holds(promise = 34, words = "BAD.")
  static void oddsOfNoSuchLoadOrTwelfthsIsBad() {
    SmellBurdens x = Due.with(CROWD);
    x.odds(0, 5);
    Edge.badOutside("odds(.., 0)", x, 0, 4, l -> x.odds(l, 0));
    Edge.badOutside("odds(0, ..)", x, 0, 12, p -> x.odds(0, p));
    SmellBurdens y = Due.with(Edge.WALK);
    Edge.badOutside("odds(.., 12)", y, 0, 0, l -> y.odds(l, 12));
    Edge.takenInside("odds(.., 0)", x.odds(0, 0), x.odds(4, 0));
    Edge.takenInside("odds(0, ..)", x.odds(0, 0), x.odds(0, 12));
  }

  // ---- 35

  @Holds(promise = 35, words = "The mean of how many LOADS are at their HOMES behind this DAY so: 1.")
  static void theMeanFromNoneToFive() {
    SmellBurdens none = Due.with("n00000a150l1504");
    SmellBurdens five = Due.with("n01234a000l0000l0011l0022l0033l0044");
    for (int p = 0; p <= 12; p++) {
      Edge.fraction("none, mid(" + p + ")", none, none.mid(p), 0, 1);
      Edge.fraction("five, mid(" + p + ")", five, five.mid(p), 5, 1);
    }
  }

  @Holds(promise = 35, words = "The mean of how many LOADS are at their HOMES behind this DAY so: 1.")
  static void theMeanOfFourThatBringOneHomeEach() {
    SmellBurdens x = Due.with("n10000a150a150a150a150l1501l1501l1501l1501");
    Edge.fraction("mid(0)", x, x.mid(0), 4, 1);
    Edge.fraction("mid(1)", x, x.mid(1), 11, 3);
    Edge.fraction("mid(6)", x, x.mid(6), 2, 1);
    Edge.fraction("mid(11)", x, x.mid(11), 1, 3);
    Edge.fraction("mid(12)", x, x.mid(12), 0, 1);
    SmellBurdens y = Due.with("n10000a150a150l1501l0022");
    Edge.fraction("one is there, mid(12)", y, y.mid(12), 1, 1);
    Edge.fraction("1 and 1 - (7/12)^2, mid(7)", y, y.mid(7), 239, 144);
  }

  @Holds(promise = 35, words = "behind this DAY so: 1.")
  static void theMeanIsAskedAside() {
    SmellBurdens x = Due.with("n10000y140l1501");
    x.keep(0);
    long digest = x.digest();
    x.mid(3);
    x.odds(0, 3);
    Edge.is("digest()", x.digest(), digest);
    Edge.is("asked()", x.asked(), 0);
    Edge.told("MEMORY", x, x.ass(0, 1), 14);
    x.day();
    Edge.fraction("behind the DAY", x, x.mid(3), 1, 1);
  }

  @Holds(promise = 35, words = "BAD;")
  static void midByNoSuchTwelfthsIsBad() {
    SmellBurdens x = Due.with(CROWD);
    x.mid(5);
    Edge.badOutside("mid(..)", x, 0, 12, x::mid);
    Edge.takenInside("mid(..)", x.mid(0), x.mid(12));
    SmellBurdens y = new SmellBurdens();
    Edge.badOutside("ahead of STATE", y, 0, 12, y::mid);
  }

  @Holds(promise = 35, words = "STATE: no ASSES.")
  static void midWithoutAssesIsState() {
    SmellBurdens x = new SmellBurdens();
    Edge.still("mid(0)", x, Edge.STATE, () -> x.mid(0));
    Edge.still("mid(12)", x, Edge.STATE, () -> x.mid(12));
  }

  // ---- 36

  @Holds(promise = 36, words = "n (1 .. 20) DEEDS truly by LOTS of a seed:")
  static void oneAndTwentyDeeds() {
    SmellBurdens x = Due.with(CROWD);
    x.lots(1, 1);
    Edge.is("one", x.count(3), 1);
    x.lots(20, 1);
    Edge.is("and twenty", x.count(3), 21);
    Edge.is("each can be undone", x.undo(20), 1);
    Edge.is("each can be undone", x.undo(0), 20);
  }

  @Holds(promise = 36, words = "for each a number: it by 8, cut, modulo 4: 0 MARK it by 64, cut, modulo 4 of LOAD it modulo how many there are is changed")
  static void choice0ChangesAMark() {
    // 9 times 48271 is 434439: by 8 54304, modulo 4 0; by 64 6788, modulo 4 0
    SmellBurdens x = Due.with("n12340a050l0504");
    x.lots(1, 9);
    Edge.told("MARK 0 of the only LOAD", x, x.load(0, 0), 4);
    Edge.is("no DAY", x.count(2), 0);
    SmellBurdens y = Due.with("n12340a050l0504l0504l0504l0504l0504");
    y.lots(1, 9);
    Edge.told("434439 modulo 5 is 4", y, y.load(4, 0), 4);
    Edge.told("LOAD 0 stays", y, y.load(0, 0), 5);
    // 182605794: by 8 22825724, modulo 4 0; by 64 2853215, modulo 4 3
    SmellBurdens z = Due.with("n12340a050l0504");
    z.lots(2, 1);
    Edge.told("MARK 3", z, z.load(0, 0), 13);
  }

  @Holds(promise = 36, words = "1 ASS it modulo how many there are is led to INN it by 64, cut, modulo 5 (perhaps where it is)")
  static void choice1LeadsAnAss() {
    // 48271: by 8 6033, modulo 4 1; by 64 754, modulo 5 4; modulo 4 3
    SmellBurdens x = Due.with("n12340a050a050a050a050l0504");
    x.lots(1, 1);
    Edge.told("ASS 3", x, x.ass(3, 2), 4);
    Edge.told("ASS 0 stays", x, x.ass(0, 2), 0);
    Edge.told("the LOAD stays", x, x.load(0, 1), 0);
    SmellBurdens y = Due.with("n12340a054l0544");
    Edge.is("where it is", y.lots(1, 1), 1);
    Edge.told("it is there", y, y.ass(0, 2), 4);
    Edge.is("that is a DEED", y.count(3), 1);
    Edge.is("it is undone", y.undo(0), 1);
  }

  @Holds(promise = 36, words = "2, 3 a DAY:")
  static void choices2And3AreADay() {
    // 2 times 48271 is 96542: by 8 12067, modulo 4 3
    SmellBurdens x = Due.with(Edge.WALK);
    x.lots(1, 2);
    Edge.is("3", x.count(2), 1);
    Edge.told("the LOAD went", x, x.load(0, 1), 1);
    // 10 times 48271 is 482710: by 8 60338, modulo 4 2
    SmellBurdens y = Due.with(Edge.WALK);
    y.lots(1, 10);
    Edge.is("2", y.count(2), 1);
    Edge.told("the LOAD went", y, y.load(0, 1), 1);
  }

  @Holds(promise = 36, words = "how many LOADS are at their HOMES then.")
  static void noneToFiveLoadsAreHomeThen() {
    Edge.is("none", Due.with(Edge.WALK).lots(1, 2), 0);
    Edge.is("one, by that DAY", Due.with("n10000a050l0501").lots(1, 2), 1);
    Edge.is("five", Due.with("n01234a000l0000l0011l0022l0033l0044").lots(20, 3), 5);
    Edge.is("the last of five", Due.with("n01234a000l0001l0002l0003l0004l1544").lots(1, 1), 1);
  }

  @Holds(promise = 36, words = "BAD;")
  static void lotsOfNoSuchNumberOrSeedIsBad() {
    SmellBurdens x = Due.with(CROWD);
    Edge.badOutside("lots(.., 1)", x, 1, 20, n -> x.lots(n, 1));
    Edge.badOutside("lots(1, ..)", x, 1, 2147483646, seed -> x.lots(1, seed));
    Edge.still("lots(0, 0)", x, Edge.BAD, () -> x.lots(0, 0));
    Edge.takenInside("lots(.., 1)", x.lots(1, 1), x.lots(20, 1));
    Edge.takenInside("lots(1, ..)", x.lots(1, 1), x.lots(1, 2147483646));
  }

  @Holds(promise = 36, words = "STATE: no ASSES;")
  static void lotsWithoutAssesIsState() {
    SmellBurdens x = new SmellBurdens();
    Edge.still("lots(1, 1)", x, Edge.STATE, () -> x.lots(1, 1));
    Edge.still("lots(20, 2147483646)", x, Edge.STATE, () -> x.lots(20, 2147483646));
  }

  private static SmellBurdens withDeeds(int n) {
    SmellBurdens x = Due.with("n00000a150l1504");
    for (int d = 0; d < n; d++) {
      x.day();
    }
    return x;
  }

  @Holds(promise = 36, words = "FULL: with n more there would be more than 40 DEEDS. (FULL last.)")
  static void fortyDeedsAreNotTooMany() {
    int[] ahead = {20, 39, 30, 21, 40, 31, 22};
    int[] more = {20, 1, 10, 20, 1, 10, 20};
    for (int n = 0; n < ahead.length; n++) {
      SmellBurdens x = withDeeds(ahead[n]);
      int many = more[n];
      if (ahead[n] + many <= 40) {
        Edge.is(many + " more than " + ahead[n], x.lots(many, 2), 0);
        Edge.is("DEEDS", x.count(3), 40);
      } else {
        Edge.still(many + " more than " + ahead[n], x, Edge.FULL, () -> x.lots(many, 2));
        Edge.is("none of them is done", x.count(3), ahead[n]);
      }
    }
  }

  @Holds(promise = 36, words = "(FULL last.)")
  static void lotsIsBadAheadOfFull() {
    SmellBurdens x = withDeeds(40);
    Edge.still("lots(1, 0)", x, Edge.BAD, () -> x.lots(1, 0));
    Edge.still("lots(21, 1)", x, Edge.BAD, () -> x.lots(21, 1));
    Edge.still("lots(1, 1)", x, Edge.FULL, () -> x.lots(1, 1));
  }
}
