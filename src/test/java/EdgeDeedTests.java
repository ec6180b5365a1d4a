/** Promises 15 to 20, sentence by sentence, and the Terms' sentences on the DAY and on DEEDS. */
final class EdgeDeedTests {
  private static final String MARKET = "n12340a050g130y002s110 l0504l0701l1202l1500l0331";

  public static void main(String[] args) throws Exception {
    Edge.run(EdgeDeedTests.class);
  }

  /** Which LOAD the first ASS would TAKE. */
  private static void takes(String call, int want, String signs) {
    SmellBurdens x = Due.with(signs);
    Edge.told(call, x, x.ass(0, 3), want);
  }

  // ---- the DAY

  @Holds(promise = 0, words = "DAY 0 is at first.")
  static void day0IsAtFirst() {
    Edge.is("of a new object", new SmellBurdens().count(2), 0);
    Edge.is("of a PLAIN", Due.with(MARKET).count(2), 0);
  }

  @Holds(promise = 0, words = "A DAY: ASSES 0, 1, .. one behind the other (the LINE)")
  static void theFirstInTheLineTakesFirst() {
    SmellBurdens x = Due.with("n11111a150a150a150a150l1504");
    Edge.is("one LOAD", x.day(), 1);
    Edge.told("ASS 0 went", x, x.ass(0, 2), 1);
    for (int i = 1; i < 4; i++) {
      Edge.told("ASS " + i + " stayed", x, x.ass(i, 2), 0);
    }
    SmellBurdens y = Due.with("n11111a010a150l1504l0104");
    Edge.told("the first one has its choice", y, y.ass(0, 3), 1);
    Edge.told("the other what is left", y, y.ass(1, 3), 0);
    SmellBurdens z = Due.with("n11111a030a150l1504l0704");
    Edge.told("the first one takes what is like it", z, z.ass(0, 3), 1);
    Edge.told("the other the better one for it", z, z.ass(1, 3), 0);
  }

  @Holds(promise = 0, words = "of the LOADS at its INN")
  static void aLoadAtAnotherInnIsNotTaken() {
    SmellBurdens x = Due.with("n00000a150l1514l1524l1534l1540l0704");
    Edge.told("the only one at its INN", x, x.ass(0, 3), 4);
    SmellBurdens y = Due.with("n00000a154l1504l1514l1524l1534");
    Edge.told("none at its INN", y, y.ass(0, 3), Edge.NONE);
  }

  @Holds(promise = 0, words = "that are not at their HOME")
  static void aLoadAtItsHomeIsNotTaken() {
    SmellBurdens x = Due.with("n00000a150l1500l0104");
    Edge.told("the one that isn't", x, x.ass(0, 3), 1);
    SmellBurdens y = Due.with("n00000a151l1511");
    Edge.told("none", y, y.ass(0, 3), Edge.NONE);
    Edge.is("none is taken", y.day(), 0);
  }

  @Holds(promise = 0, words = "and were not taken this DAY")
  static void aLoadIsTakenOnceADay() {
    // LOAD 0 comes to INN 1 this DAY, where ASS 1 stands: it takes it on the next DAY only
    SmellBurdens x = Due.with("n12340a150m151l1504");
    Edge.is("one is taken", x.day(), 1);
    Edge.told("it went one ROAD", x, x.load(0, 1), 1);
    SmellBurdens y = Due.with("n12340m150m150l1504");
    Edge.is("once", y.day(), 1);
    Edge.told("on the next DAY again", y, y.ass(0, 3), 0);
  }

  @Holds(promise = 0, words = "each TAKES that which is most LIKE to it (of like ones the first)")
  static void theMostLikeAndOfLikeOnesTheFirst() {
    takes("the last is the most LIKE", 4, "n00000a150l0001l0101l0301l0701l1501");
    takes("the first is the most LIKE", 0, "n00000a150l1501l0701l0301l0101l0001");
    takes("all are like", 0, "n00000a150l0101l0201l0401l0801l0101");
    takes("the first of the last two", 1, "n00000a150l0101l0301l0501");
    takes("a GREY sees what is in both", 2, "n00000g030l0001l0101l1501l0301");
    takes("an ASS sees neither, too", 3, "n00000a030l0001l0101l1501l0301");
  }

  @Holds(promise = 0, words = "unless it REFUSES that.")
  static void theMostLikeMayBeRefused() {
    takes("ASS: LIKE by 1", 0, "n00000a150l0101");
    takes("ASS: LIKE by 0", Edge.NONE, "n00000a150l0001");
    takes("GREY: LIKE by 1", 0, "n00000g010l1501");
    takes("GREY: LIKE by 0", Edge.NONE, "n00000g010l1401");
    takes("YOUNG: LIKE by 1", 0, "n00000y150l0101");
    takes("YOUNG: LIKE by 0", Edge.NONE, "n00000y150l0001");
    takes("STUBBORN: LIKE by 3", 0, "n00000s150l0701");
    takes("STUBBORN: LIKE by 2", Edge.NONE, "n00000s150l0301");
    takes("OLD: LIKE by 2", 0, "n00000o010l1501");
    takes("OLD: LIKE by 0", Edge.NONE, "n00000o010l1401");
    takes("MULE: LIKE by 4", 0, "n00000m000l0001");
    takes("MULE: LIKE by 3", Edge.NONE, "n00000m000l0101");
  }

  @Holds(promise = 0, words = "Who took none stays.")
  static void whoTookNoneStays() {
    SmellBurdens x = Due.with("n12340a000y151l1504l0044");
    Edge.is("none is taken", x.day(), 0);
    Edge.told("ASS 0", x, x.ass(0, 2), 0);
    Edge.told("ASS 1", x, x.ass(1, 2), 1);
    Edge.told("a YOUNG one's MEMORY", x, x.ass(1, 1), 15);
    Edge.told("LOAD 0", x, x.load(0, 1), 0);
    Edge.is("it is a DAY", x.count(2), 1);
  }

  @Holds(promise = 0, words = "Then each goes with the LOAD by the ROAD to the next INN;")
  static void eachGoesByItsRoad() {
    SmellBurdens x = Due.with("n43210m010m021m043m084l0102l0212l0432l0842");
    Edge.is("four", x.day(), 4);
    int[] inns = {4, 3, 1, 0};
    for (int i = 0; i < 4; i++) {
      Edge.told("ASS " + i, x, x.ass(i, 2), inns[i]);
      Edge.told("LOAD " + i, x, x.load(i, 1), inns[i]);
    }
    SmellBurdens y = Due.with("n12340m150m151l1502l1503");
    Edge.is("one", y.day(), 1);
    Edge.told("ASS 0", y, y.ass(0, 2), 1);
    Edge.told("what is left stays", y, y.load(1, 1), 0);
  }

  @Holds(promise = 0, words = "a YOUNG one's MEMORY is that LOAD's MARKS then.")
  static void aYoungOneRemembersWhatItTook() {
    SmellBurdens x = Due.with("n12340y080a142l0804l0702l1524");
    x.smear(0, 2);
    x.day();
    Edge.told("all its MARKS", x, x.ass(0, 1), 12);
    Edge.told("an ASS keeps its MEMORY", x, x.ass(1, 1), 14);
    SmellBurdens y = Due.with("n12340y020l0004");
    y.day();
    Edge.told("no MARKS", y, y.ass(0, 1), 0);
  }

  @Holds(promise = 0, words = "The DAY is 1 more.")
  static void theDayIs1More() {
    SmellBurdens x = Due.with(Edge.WALK);
    x.day();
    Edge.is("behind a DAY", x.count(2), 1);
    x.smear(0, 0);
    x.lead(0, 0);
    Edge.is("other DEEDS are no DAYS", x.count(2), 1);
    Edge.is("at forty", Edge.full(Edge.WALK).count(2), 40);
  }

  @Holds(promise = 0, words = "What is done: a DAY, a MARK of a LOAD changed (there, or not), an ASS led to an INN.")
  static void eachOfThreeIsADeed() {
    SmellBurdens x = Due.with(Edge.WALK);
    x.day();
    Edge.is("a DAY", x.count(3), 1);
    Edge.is("a MARK that wasn't there", x.smear(0, 1), 7);
    Edge.is("a MARK", x.count(3), 2);
    Edge.is("a MARK that was there", x.smear(0, 1), 5);
    Edge.is("a MARK", x.count(3), 3);
    x.lead(0, 4);
    Edge.is("an ASS led", x.count(3), 4);
    x.keep(0);
    x.on(0);
    x.home();
    Edge.is("nothing else", x.count(3), 4);
  }

  @Holds(promise = 0, words = "These are DEEDS 0, 1, .. (40 at most).")
  static void fortyDeedsAtMost() {
    SmellBurdens x = Edge.full(Edge.WALK);
    Edge.is("forty", x.count(3), 40);
    Edge.still("day()", x, Edge.FULL, x::day);
    Edge.is("one is undone", x.undo(39), 1);
    Edge.is("room for one", x.day(), 0);
    Edge.still("not for two", x, Edge.FULL, x::day);
  }

  // ---- 15

  @Holds(promise = 15, words = "A DAY: how many LOADS were taken.")
  static void noneToFourLoadsAreTaken() {
    Edge.is("none", Due.with("n00000m000l0101").day(), 0);
    Edge.is("one", Due.with("n00000m000l0001").day(), 1);
    Edge.is("four of five", Due.with("n00000a000a000a000a000" + "l0001".repeat(5)).day(), 4);
    Edge.is("five can't be: three at HOME", Due.with("n00000a000a000a000a000l0000l0000l0000l0001l0001").day(), 2);
  }

  @Holds(promise = 15, words = "STATE: no ASSES;")
  static void aDayWithoutAssesIsState() {
    SmellBurdens x = new SmellBurdens();
    Edge.still("day()", x, Edge.STATE, x::day);
  }

  @Holds(promise = 15, words = {"FULL: 40 DEEDS.", "(FULL last.)"})
  static void theFortyFirstDayIsFull() {
    SmellBurdens x = Due.with("n00000a150l1504");
    for (int d = 1; d <= 40; d++) {
      Edge.is("day " + d, x.day(), 1);
    }
    Edge.still("day 41", x, Edge.FULL, x::day);
    Edge.is("forty DEEDS stay", x.undo(0), 40);
  }

  // ---- 16

  @Holds(promise = 16, words = "MARK k (0 .. 3) of a LOAD is changed: its MARKS then.")
  static void theFirstAndTheLastMarkOfTheFirstAndTheLastLoad() {
    SmellBurdens x = Due.with("n00000a000" + "l0001".repeat(4) + "l1501");
    Edge.is("smear(0, 0)", x.smear(0, 0), 1);
    Edge.is("smear(0, 3)", x.smear(0, 3), 9);
    Edge.is("smear(4, 0)", x.smear(4, 0), 14);
    Edge.is("smear(4, 3)", x.smear(4, 3), 6);
    Edge.is("smear(4, 1)", x.smear(4, 1), 4);
    Edge.is("smear(4, 2)", x.smear(4, 2), 0);
    Edge.told("LOAD 3 beside it", x, x.load(3, 0), 0);
    Edge.told("INN of LOAD 4", x, x.load(4, 1), 0);
    Edge.told("LOAD 0", x, x.load(0, 0), 9);
  }

  @Holds(promise = 16, words = "BAD;")
  static void noSuchMarkAndNoSuchLoadIsBad() {
    SmellBurdens one = Due.with(Edge.WALK);
    Edge.badOutside("smear(.., 0)", one, 0, 0, l -> one.smear(l, 0));
    Edge.badOutside("smear(0, ..)", one, 0, 3, k -> one.smear(0, k));
    SmellBurdens five = Due.with("n00000a000" + "l0001".repeat(5));
    Edge.badOutside("smear(.., 3)", five, 0, 4, l -> five.smear(l, 3));
    Edge.takenInside("smear(.., 3)", five.smear(0, 3), five.smear(4, 3));
  }

  @Holds(promise = 16, words = {"FULL.", "(FULL last.)"})
  static void theFortyFirstMarkIsFull() {
    SmellBurdens x = Due.with(Edge.WALK);
    for (int n = 1; n <= 40; n++) {
      Edge.is("smear " + n, x.smear(0, 0), n % 2 == 1 ? 4 : 5);
    }
    Edge.still("smear 41", x, Edge.FULL, () -> x.smear(0, 0));
    Edge.still("BAD ahead of it", x, Edge.BAD, () -> x.smear(1, 0));
    Edge.still("BAD ahead of it", x, Edge.BAD, () -> x.smear(0, 4));
    x.undo(39);
    Edge.is("room for one", x.smear(0, 0), 5);
  }

  // ---- 17

  @Holds(promise = 17, words = "An ASS is led to an INN: that where it was.")
  static void theFirstAndTheLastAssToTheFirstAndTheLastInn() {
    SmellBurdens x = Due.with("n00000a000a001a002a153l0001");
    Edge.is("lead(0, 4)", x.lead(0, 4), 0);
    Edge.is("lead(0, 0)", x.lead(0, 0), 4);
    Edge.is("lead(3, 0)", x.lead(3, 0), 3);
    Edge.is("lead(3, 4)", x.lead(3, 4), 0);
    Edge.told("ASS 3", x, x.ass(3, 2), 4);
    Edge.told("its MEMORY", x, x.ass(3, 1), 15);
    Edge.told("ASS 2 beside it", x, x.ass(2, 2), 2);
    Edge.told("the LOAD stays", x, x.load(0, 1), 0);
  }

  @Holds(promise = 17, words = "BAD;")
  static void noSuchInnAndNoSuchAssIsBad() {
    SmellBurdens one = Due.with(Edge.WALK);
    Edge.badOutside("lead(.., 1)", one, 0, 0, i -> one.lead(i, 1));
    Edge.badOutside("lead(0, ..)", one, 0, 4, inn -> one.lead(0, inn));
    SmellBurdens four = Due.with("n00000a000a000a000a000l0001");
    Edge.badOutside("lead(.., 4)", four, 0, 3, i -> four.lead(i, 4));
    Edge.takenInside("lead(.., 4)", four.lead(0, 4), four.lead(3, 4));
  }

  @Holds(promise = 17, words = "STATE: it is there;")
  static void leadToWhereItIsIsState() {
    SmellBurdens x = Due.with("n00000a000a004l0001");
    Edge.still("lead(0, 0)", x, Edge.STATE, () -> x.lead(0, 0));
    Edge.still("lead(1, 4)", x, Edge.STATE, () -> x.lead(1, 4));
    x.lead(0, 3);
    Edge.still("lead(0, 3) again", x, Edge.STATE, () -> x.lead(0, 3));
    Edge.is("not where it was", x.lead(0, 0), 3);
  }

  @Holds(promise = 17, words = {"FULL.", "(FULL last.)"})
  static void theFortyFirstLeadIsFullAndFullIsLast() {
    SmellBurdens x = Due.with(Edge.WALK);
    for (int n = 1; n <= 40; n++) {
      Edge.is("lead " + n, x.lead(0, n % 2), 1 - n % 2);
    }
    Edge.still("lead 41", x, Edge.FULL, () -> x.lead(0, 1));
    Edge.still("STATE ahead of it", x, Edge.STATE, () -> x.lead(0, 0));
    Edge.still("BAD ahead of it", x, Edge.BAD, () -> x.lead(0, 5));
    Edge.still("BAD ahead of it", x, Edge.BAD, () -> x.lead(1, 0));
    x.undo(39);
    Edge.is("room for one", x.lead(0, 0), 1);
  }

  // ---- 18

  @Holds(promise = 18, words = "DEEDS from number n on (0 to how many there are: none then) are undone: how many.")
  static void deedsAreUndoneFromAnyNumberOn() {
    for (int n = 0; n <= 40; n++) {
      SmellBurdens x = Due.with("n12340y050l0704");
      long digest = 0;
      for (int d = 0; d < 40; d++) {
        digest = d == n ? x.digest() : digest;
        deed(x, d);
      }
      digest = n == 40 ? x.digest() : digest;
      Edge.is("undo(" + n + ")", x.undo(n), 40 - n);
      Edge.is("DEEDS", x.count(3), n);
      Edge.is("as it was then", x.digest(), digest);
      Edge.is("undo(" + n + ") again", x.undo(n), 0);
    }
  }

  /** DAYS, MARKS, an ASS led, by turns. */
  private static void deed(SmellBurdens x, int d) {
    switch (d % 4) {
      case 0:
        x.day();
        break;
      case 1:
        x.smear(0, d / 4 % 4);
        break;
      case 2:
        x.ass(0, 2);
        x.lead(0, (x.asked() + 1) % 5);
        break;
      default:
        x.load(0, 1);
        x.lead(0, x.asked());
        if (x.count(3) == d) {
          x.smear(0, 3);
        }
    }
  }

  @Holds(promise = 18, words = "DEEDS from number n on (0 to how many there are: none then) are undone: how many.")
  static void ofNoDeedsNoneAreUndone() {
    Edge.is("without a PLAIN", new SmellBurdens().undo(0), 0);
    Edge.is("of a PLAIN", Due.with(Edge.WALK).undo(0), 0);
  }

  @Holds(promise = 18, words = "BAD.")
  static void undoFromBehindTheDeedsIsBad() {
    SmellBurdens none = Due.with(Edge.WALK);
    Edge.badOutside("undo(..) of none", none, 0, 0, none::undo);
    SmellBurdens two = Due.with(Edge.WALK);
    two.day();
    two.day();
    Edge.badOutside("undo(..) of two", two, 0, 2, two::undo);
    SmellBurdens all = Edge.full(Edge.WALK);
    Edge.badOutside("undo(..) of forty", all, 0, 40, all::undo);
    SmellBurdens bare = new SmellBurdens();
    Edge.badOutside("undo(..) without a PLAIN", bare, 0, 0, bare::undo);
  }

  // ---- 19

  @Holds(promise = 19, words = "The PLAIN (as it is, DEEDS) is kept in a place (0 .. 2): how many DEEDS.")
  static void keptInTheFirstAndTheLastPlaceWithNoneAndFortyDeeds() {
    SmellBurdens x = Due.with(Edge.WALK);
    Edge.is("keep(0)", x.keep(0), 0);
    for (int d = 0; d < 40; d++) {
      x.smear(0, d % 4);
    }
    Edge.is("keep(2)", x.keep(2), 40);
    Edge.is("kept", x.count(10), 2);
    Edge.is("keep(1)", x.keep(1), 40);
    Edge.is("kept", x.count(10), 3);
    Edge.is("on(0)", x.on(0), 0);
    Edge.is("on(2)", x.on(2), 40);
    Edge.is("its DEEDS", x.undo(0), 40);
  }

  @Holds(promise = 19, words = "is kept in a place (0 .. 2): how many DEEDS.")
  static void keptAgainInAFullPlace() {
    SmellBurdens x = Due.with(Edge.WALK);
    x.day();
    Edge.is("keep(1)", x.keep(1), 1);
    x.undo(0);
    Edge.is("keep(1) again", x.keep(1), 0);
    Edge.is("one is kept", x.count(10), 1);
    x.smear(0, 0);
    Edge.is("the latter", x.on(1), 0);
    Edge.told("its LOAD", x, x.load(0, 1), 0);
  }

  @Holds(promise = 19, words = "BAD;")
  static void keepInNoSuchPlaceIsBad() {
    SmellBurdens x = Due.with(Edge.WALK);
    Edge.badOutside("keep(..)", x, 0, 2, x::keep);
    Edge.takenInside("keep(..)", x.keep(0), x.keep(2));
  }

  @Holds(promise = 19, words = "STATE: no ASSES.")
  static void keepWithoutAssesIsState() {
    SmellBurdens x = new SmellBurdens();
    for (int k = 0; k < 3; k++) {
      int place = k;
      Edge.still("keep(" + k + ")", x, Edge.STATE, () -> x.keep(place));
    }
  }

  // ---- 20

  @Holds(promise = 20, words = "The PLAIN is as it was kept: how many DEEDS.")
  static void onFromEveryPlace() {
    SmellBurdens x = Due.with("n12340y050l0704");
    long[] digests = new long[3];
    for (int k = 0; k < 3; k++) {
      for (int d = 0; d < 10 * k; d++) {
        deed(x, x.count(3));
      }
      x.keep(k);
    }
    int[] deeds = {0, 10, 30};
    for (int k = 2; k >= 0; k--) {
      Edge.is("on(" + k + ")", x.on(k), deeds[k]);
      Edge.is("DEEDS", x.count(3), deeds[k]);
      digests[k] = x.digest();
      x.undo(0);
    }
    for (int k = 0; k < 3; k++) {
      x.day();
      x.smear(0, 1);
      Edge.is("on(" + k + ") again", x.on(k), deeds[k]);
      Edge.is("as it was", x.digest(), digests[k]);
    }
  }

  @Holds(promise = 20, words = "The PLAIN is as it was kept: how many DEEDS.")
  static void itsDeedsCanBeUndoneOneByOne() {
    int deeds = 12;
    SmellBurdens x = Due.with("n12340y050l0704");
    int[] looks = new int[deeds + 1];
    for (int d = 0; d < deeds; d++) {
      looks[d] = looksOf(x);
      deed(x, d);
    }
    looks[deeds] = looksOf(x);
    x.keep(2);
    x.undo(0);
    for (int d = 0; d < deeds; d++) {
      x.lead(0, (d + 3) % 5);
    }
    Edge.is("on(2)", x.on(2), deeds);
    for (int n = deeds; n >= 0; n--) {
      Edge.is("undo(" + n + ")", x.undo(n), n == deeds ? 0 : 1);
      Edge.is("MEMORY, INNS, MARKS, DAY by " + n + " DEEDS", looksOf(x), looks[n]);
    }
  }

  /** MEMORY and INN of ASS 0, MARKS and INN of LOAD 0, and the DAY, by two figures each. */
  private static int looksOf(SmellBurdens x) {
    x.ass(0, 1);
    int looks = x.asked();
    x.ass(0, 2);
    looks = 100 * looks + x.asked();
    x.load(0, 0);
    looks = 100 * looks + x.asked();
    x.load(0, 1);
    looks = 100 * looks + x.asked();
    return 100 * looks + x.count(2);
  }

  @Holds(promise = 20, words = "The PLAIN is as it was kept: how many DEEDS.")
  static void onToFortyDeedsIsFullAndToNoneIsNot() {
    SmellBurdens x = Due.with(Edge.WALK);
    x.keep(0);
    for (int d = 0; d < 40; d++) {
      x.day();
    }
    x.keep(2);
    x.on(0);
    Edge.is("none", x.day(), 1);
    Edge.is("on(2)", x.on(2), 40);
    Edge.still("forty", x, Edge.FULL, x::day);
    Edge.is("the DAY, too", x.count(2), 40);
  }

  @Holds(promise = 20, words = "BAD;")
  static void onFromNoSuchPlaceIsBad() {
    SmellBurdens x = Due.with(Edge.WALK);
    x.keep(0);
    x.keep(2);
    Edge.badOutside("on(..)", x, 0, 2, x::on);
    Edge.takenInside("on(..)", x.on(0), x.on(2));
  }

  @Holds(promise = 20, words = "NOTHING.")
  static void onFromAnEmptyPlaceIsNothing() {
    SmellBurdens x = Due.with(Edge.WALK);
    x.keep(1);
    Edge.found("on(0)", x, Edge.NOTHING, () -> x.on(0));
    Edge.found("on(2)", x, Edge.NOTHING, () -> x.on(2));
    SmellBurdens y = new SmellBurdens();
    Edge.found("without a PLAIN", y, Edge.NOTHING, () -> y.on(0));
  }
}
