/** Promises 21 to 26, sentence by sentence, and the Terms' on likeness: who likes what, days to come. */
final class EdgeDayTests {
  private static final String LETTERS = "agysom";
  /** LOADS 0 to 4 come home one behind the other, behind four DAYS each, carried by one MULE. */
  private static final String TWENTY = "n12340m150l1504l1543l1532l1521l1510";
  /** What came of a long search for PLAINS that go round late (a model of its own, apart from the program). */
  private static final String LATE = "n44312s123g014o024a072l0841l0841l1310l1120l0620";

  public static void main(String[] args) throws Exception {
    Edge.run(EdgeDayTests.class);
  }

  private static String two(int n) {
    return n < 10 ? "0" + n : "" + n;
  }

  private static SmellBurdens one(int kind, int memory) {
    return Due.with("n00000" + LETTERS.charAt(kind) + two(memory) + "4l0001");
  }

  /** How many of the four MARKS are there (or not there) in both. */
  private static int common(int memory, int marks, int there) {
    int n = 0;
    for (int k = 0; k < 4; k++) {
      n += (memory >> k & 1) == there && (marks >> k & 1) == there ? 1 : 0;
    }
    return n;
  }

  private static int likeness(int kind, int memory, int marks) {
    if (kind == 1) {
      return common(memory, marks, 1);
    }
    return kind == 4 ? 2 * common(memory, marks, 1) : common(memory, marks, 1) + common(memory, marks, 0);
  }

  private static void likeOfAll(int kind) {
    for (int memory = 0; memory < 16; memory++) {
      SmellBurdens x = one(kind, memory);
      for (int marks = 0; marks < 16; marks++) {
        Edge.is(LETTERS.charAt(kind) + " " + memory + ", " + marks, x.like(0, marks), likeness(kind, memory, marks));
      }
    }
  }

  // ---- likeness

  @Holds(promise = 0, words = "A LOAD is LIKE to an ASS by how many of the four MARKS are in both, or in neither of its MARKS, the MEMORY;")
  static void likeToAnAssFrom0To4() {
    likeOfAll(0);
    likeOfAll(2);
    likeOfAll(3);
    likeOfAll(5);
    Edge.is("nothing to nothing", one(0, 0).like(0, 0), 4);
    Edge.is("all to nothing", one(0, 0).like(0, 15), 0);
    Edge.is("all to all", one(0, 15).like(0, 15), 4);
  }

  @Holds(promise = 0, words = "to a GREY by how many are in both;")
  static void likeToAGreyFrom0To4() {
    likeOfAll(1);
    Edge.is("nothing to nothing", one(1, 0).like(0, 0), 0);
    Edge.is("all to all", one(1, 15).like(0, 15), 4);
  }

  @Holds(promise = 0, words = "to an OLD one twice as much as to a GREY.")
  static void likeToAnOldOneFrom0To8() {
    likeOfAll(4);
    Edge.is("nothing to nothing", one(4, 0).like(0, 0), 0);
    Edge.is("all to all", one(4, 15).like(0, 15), 8);
  }

  private static void leastThatIsTaken(int kind, int least) {
    for (int memory = 0; memory < 16; memory++) {
      SmellBurdens x = one(kind, memory);
      for (int marks = 0; marks < 16; marks++) {
        int want = likeness(kind, memory, marks) < least ? 0 : 1;
        Edge.is(LETTERS.charAt(kind) + " " + memory + ", who(" + marks + ")", x.who(marks), want);
      }
    }
  }

  @Holds(promise = 0, words = "One REFUSES a LOAD that is LIKE by less than 1;")
  static void oneRefusesBelow1() {
    leastThatIsTaken(0, 1);
    leastThatIsTaken(1, 1);
    leastThatIsTaken(2, 1);
    leastThatIsTaken(4, 1);
  }

  @Holds(promise = 0, words = "a STUBBORN one by less than 3;")
  static void aStubbornOneRefusesBelow3() {
    leastThatIsTaken(3, 3);
  }

  @Holds(promise = 0, words = "a MULE by less than 4.")
  static void aMuleRefusesBelow4() {
    leastThatIsTaken(5, 4);
  }

  @Holds(promise = 0, words = "(aside; wherever they are)")
  static void likenessIsAsideAndWherever() {
    SmellBurdens x = Edge.rich();
    Edge.still("like(0, 5)", x, 4, () -> x.like(0, 5));
    Edge.still("like(3, 11)", x, 4, () -> x.like(3, 11));
    // of MEMORIES 5, 13, 0 (a YOUNG one that took nothing), 11: LIKE by 2, 3, 1, 3
    Edge.still("who(15)", x, 11, () -> x.who(15));
    Edge.asUntouched("like(), who()", x, Edge::rich);
  }

  @Holds(promise = 0, words = "(aside)")
  static void daysToComeAreAside() {
    SmellBurdens x = Due.with(TWENTY);
    x.day();
    x.keep(1);
    Edge.still("where(0, 3)", x, 4, () -> x.where(0, 3));
    Edge.still("where(4, 60)", x, 0, () -> x.where(4, 60));
    Edge.still("home()", x, 19, x::home);
    Edge.is("round()", x.round(), 20);
    Edge.is("marks(4, 19)", x.marks(4, 19), 0);
    Edge.is("marks(0, 2)", x.marks(0, 2), Edge.NONE);
    Edge.asUntouched("where(), home(), round(), marks()", x, () -> {
      SmellBurdens y = Due.with(TWENTY);
      y.day();
      y.keep(1);
      return y;
    });
  }

  // ---- 21

  @Holds(promise = 21, words = "By how much a LOAD of a set of MARKS (0 .. 15) is LIKE to an ASS.")
  static void likeOfTheFirstAndTheLastAssAndSet() {
    SmellBurdens x = Due.with("n00000a000g150y010o154l0001");
    Edge.is("like(0, 0)", x.like(0, 0), 4);
    Edge.is("like(0, 15)", x.like(0, 15), 0);
    Edge.is("like(1, 15)", x.like(1, 15), 4);
    Edge.is("like(3, 0)", x.like(3, 0), 0);
    Edge.is("like(3, 15)", x.like(3, 15), 8);
  }

  @Holds(promise = 21, words = "By how much a LOAD of a set of MARKS (0 .. 15) is LIKE to an ASS.")
  static void likeByTheMemoryAsItIsNow() {
    SmellBurdens x = Due.with("n00000y150l0704");
    Edge.is("at first", x.like(0, 7), 3);
    x.day();
    Edge.is("behind a DAY", x.like(0, 7), 4);
    x.undo(0);
    Edge.is("undone", x.like(0, 7), 3);
  }

  @Holds(promise = 21, words = "BAD.")
  static void likeOfNoSuchAssOrSetIsBad() {
    SmellBurdens one = Due.with(Edge.WALK);
    Edge.badOutside("like(.., 5)", one, 0, 0, i -> one.like(i, 5));
    Edge.badOutside("like(0, ..)", one, 0, 15, marks -> one.like(0, marks));
    SmellBurdens four = Due.with("n00000a000a000a000a000l0001");
    Edge.badOutside("like(.., 0)", four, 0, 3, i -> four.like(i, 0));
  }

  // ---- 22

  @Holds(promise = 22, words = "Who (bits) would not REFUSE a LOAD of a set of MARKS (0 .. 15).")
  static void nobodyTheFirstTheLastAndAll() {
    SmellBurdens x = Due.with("n00000m000m010m020m154l1500");
    Edge.is("nobody", x.who(4), 0);
    Edge.is("the first", x.who(0), 1);
    Edge.is("the last, at another INN", x.who(15), 8);
    Edge.is("all", Due.with("n00000a000g010y020s070l0001").who(3), 15);
    Edge.is("without ASSES", new SmellBurdens().who(15), 0);
  }

  @Holds(promise = 22, words = "BAD.")
  static void whoByNoSuchSetIsBad() {
    SmellBurdens x = Due.with(Edge.WALK);
    Edge.badOutside("who(..)", x, 0, 15, x::who);
    SmellBurdens bare = new SmellBurdens();
    Edge.badOutside("who(..) without ASSES", bare, 0, 15, bare::who);
  }

  // ---- 23

  @Holds(promise = 23, words = "The INN of a LOAD in n (0 .. 60) DAYS.")
  static void whereIn0And60Days() {
    SmellBurdens x = Due.with("n12040m150l1504l0043");
    int[] inns = {0, 1, 2};
    for (int n = 0; n <= 60; n++) {
      Edge.is("where(0, " + n + ")", x.where(0, n), inns[n % 3]);
    }
    Edge.is("where(1, 0)", x.where(1, 0), 4);
    Edge.is("where(1, 60)", x.where(1, 60), 4);
  }

  @Holds(promise = 23, words = "The INN of a LOAD in n (0 .. 60) DAYS.")
  static void whereBeyondFortyDeeds() {
    SmellBurdens x = Edge.full("n10000m150l1504");
    Edge.is("now, behind forty DAYS", x.where(0, 0), 0);
    Edge.is("in 59 more", x.where(0, 59), 1);
    Edge.is("in 60 more", x.where(0, 60), 0);
  }

  @Holds(promise = 23, words = "BAD.")
  static void whereOfNoSuchLoadOrDayIsBad() {
    SmellBurdens x = Due.with(TWENTY);
    Edge.badOutside("where(.., 0)", x, 0, 4, l -> x.where(l, 0));
    Edge.badOutside("where(0, ..)", x, 0, 60, n -> x.where(0, n));
    SmellBurdens y = Due.with(Edge.WALK);
    Edge.badOutside("where(.., 60)", y, 0, 0, l -> y.where(l, 60));
    Edge.takenInside("where(.., 60)", x.where(0, 60), x.where(4, 60));
  }

  // ---- 24

  @Holds(promise = 24, words = "In how many DAYS (0 .. 60) all LOADS are at their HOMES first.")
  static void allHomeToday() {
    SmellBurdens x = Due.with("n12340a000l0000l0111l0222l0333l0444");
    Edge.still("home()", x, 0, x::home);
  }

  // No PLAIN can take longer than twenty: a LOAD comes by the ROADS to its HOME in four DAYS of its
  // own or never, and a DAY on which none goes is followed by such DAYS alone.
  @Holds(promise = 24, words = "In how many DAYS (0 .. 60) all LOADS are at their HOMES first.")
  static void allHomeInTwentyDays() {
    SmellBurdens x = Due.with(TWENTY);
    for (int d = 0; d < 20; d++) {
      Edge.is("home() on DAY " + d, x.home(), 20 - d);
      x.day();
    }
    Edge.is("home() then", x.home(), 0);
  }

  @Holds(promise = 24, words = "NONE: in none of these.")
  static void neverAllHome() {
    SmellBurdens x = Due.with("n10000m150l1504");
    Edge.still("to and fro", x, Edge.NONE, x::home);
    SmellBurdens y = Due.with("n12340m150l1504l1543l1532l1521l0010");
    Edge.still("four of five, each on its DAY", y, Edge.NONE, y::home);
    SmellBurdens z = Due.with("n00000m150l1501l0022l0033l0044l0000");
    Edge.still("only the first isn't", z, Edge.NONE, z::home);
  }

  @Holds(promise = 24, words = "STATE: no ASSES.")
  static void homeWithoutAssesIsState() {
    SmellBurdens x = new SmellBurdens();
    Edge.still("home()", x, Edge.STATE, x::home);
  }

  // ---- 25

  @Holds(promise = 25, words = "Behind how many DAYS (1 .. 60) INNS of all, MEMORIES are first as they were some DAY ahead (from now on);")
  static void roundBehindOneDay() {
    SmellBurdens x = Due.with("n00000m150l0004");
    Edge.is("nobody goes", x.round(), 1);
    Edge.is("asked()", x.asked(), 1);
    SmellBurdens y = Due.with("n00000m150l1504");
    Edge.is("by a ROAD to itself", y.round(), 1);
    Edge.is("asked()", y.asked(), 1);
  }

  @Holds(promise = 25, words = "Behind how many DAYS (1 .. 60) INNS of all, MEMORIES are first as they were some DAY ahead (from now on);")
  static void roundBehind46Days() {
    SmellBurdens x = Due.with(LATE);
    Edge.is("round()", x.round(), 46);
    Edge.is("asked()", x.asked(), 4);
    for (int l = 0; l < 5; l++) {
      for (int n = 42; n <= 56; n++) {
        Edge.is("where(" + l + ", " + n + ")", x.where(l, n), x.where(l, n + 4));
      }
    }
  }

  @Holds(promise = 25, words = "INNS of all, MEMORIES are first as they were some DAY ahead (from now on);")
  static void roundCountsFromNowOn() {
    SmellBurdens x = Due.with(LATE);
    for (int d = 1; d <= 40; d++) {
      x.day();
      Edge.is("round() behind DAY " + d, x.round(), 46 - d);
      Edge.is("asked()", x.asked(), 4);
    }
    SmellBurdens y = Due.with("n12100m150l1504");
    Edge.is("out, then to and fro", y.round(), 3);
    y.day();
    Edge.is("to and fro", y.round(), 2);
    y.day();
    Edge.is("to and fro", y.round(), 2);
  }

  @Holds(promise = 25, words = "INNS of all, MEMORIES are first as they were some DAY ahead")
  static void roundLooksAtInnsOfAllAndMemories() {
    Edge.is("a MEMORY alone changes", Due.with("n00000y150l1404").round(), 2);
    Edge.is("an INN changes on DAY 1", Due.with("n11111m150l1504").round(), 2);
    Edge.is("home on DAY 1", Due.with("n12340m150l1501").round(), 2);
    Edge.is("a ring of four, no HOME there", Due.with("n12304m150l1504").round(), 4);
  }

  @Holds(promise = 25, words = "how many DAYS ago that was by asked().")
  static void roundTellsHowManyDaysAgo() {
    String[] signs = {"n00000m150l1504", "n10000m150l1504", "n12004m150l1504", "n12304m150l1504"};
    for (int n = 0; n < signs.length; n++) {
      SmellBurdens x = Due.with(signs[n]);
      Edge.is("round() of " + signs[n], x.round(), n + 1);
      Edge.is("asked()", x.asked(), n + 1);
    }
    SmellBurdens y = Due.with(TWENTY);
    Edge.is("all are home on DAY 20, so on DAY 21", y.round(), 21);
    Edge.is("asked()", y.asked(), 1);
  }

  // That none of sixty DAYS is as one ahead was found of no PLAIN: a search for late ones ended at 46.
  @Holds(promise = 25, words = "NONE: behind none of these.")
  static void roundIsNotNone() {
    String[] signs = {LATE, "n43302o013s074s064a023l1340l1340l0301l0621l0231",
      "n14123s081s013s053g012l0720l0940l0834l0520l0834", "n40302g083s144s064a023l1343l1340l1201l0621l0231"};
    int[] behind = {46, 45, 46, 41};
    for (int n = 0; n < signs.length; n++) {
      Edge.is("round() of " + signs[n], Due.with(signs[n]).round(), behind[n]);
    }
  }

  @Holds(promise = 25, words = "STATE: no ASSES.")
  static void roundWithoutAssesIsState() {
    SmellBurdens x = new SmellBurdens();
    Edge.still("round()", x, Edge.STATE, x::round);
  }

  // ---- 26

  private static void marksAre(String call, SmellBurdens x, int answer, int want, int then) {
    Edge.is(call, answer, want);
    Edge.is(call + ", then asked()", x.asked(), then);
  }

  @Holds(promise = 26, words = "The fewest MARKS of a LOAD to be changed now so that it is at its HOME in n (0 .. 20) DAYS at last (some DAY of these);")
  static void marksIn0And20Days() {
    SmellBurdens x = Due.with(TWENTY);
    marksAre("home on DAY 20", x, x.marks(4, 20), 0, 15);
    Edge.is("not on DAY 19", x.marks(4, 19), Edge.NONE);
    Edge.is("LOAD 3 on DAY 16", x.marks(3, 16), 0);
    Edge.is("not on DAY 15", x.marks(3, 15), Edge.NONE);
    Edge.is("LOAD 0 not today", x.marks(0, 0), Edge.NONE);
    SmellBurdens y = Due.with("n12340m150l0900");
    marksAre("today, at its HOME", y, y.marks(0, 0), 0, 9);
    marksAre("in 20 DAYS as well", y, y.marks(0, 20), 0, 9);
  }

  @Holds(promise = 26, words = "so that it is at its HOME in n (0 .. 20) DAYS at last (some DAY of these);")
  static void someDayOfTheseIsEnough() {
    SmellBurdens x = Due.with("n12340m150l1501");
    for (int n = 1; n <= 20; n++) {
      marksAre("home on DAY 1, n " + n, x, x.marks(0, n), 0, 15);
    }
  }

  @Holds(promise = 26, words = "The fewest MARKS of a LOAD to be changed now")
  static void noneToFourMarksAreChanged() {
    int[] marks = {15, 14, 12, 8, 0};
    for (int n = 0; n <= 4; n++) {
      SmellBurdens x = Due.with("n11111m150l" + two(marks[n]) + "01");
      marksAre("marks(0, 1) of " + marks[n], x, x.marks(0, 1), n, 15);
    }
  }

  @Holds(promise = 26, words = "its MARKS then by asked() (of as few the least number).")
  static void ofAsFewTheLeastNumber() {
    SmellBurdens x = Due.with("n11111s150l0001");
    marksAre("three of four", x, x.marks(0, 1), 3, 7);
    SmellBurdens y = Due.with("n11111g150l0001");
    marksAre("one of four", y, y.marks(0, 1), 1, 1);
    // fewer changes are ahead of a lesser number: 0 would do by two, 13 by one
    SmellBurdens z = Due.with("n11111m000m130l0501");
    marksAre("one, not two", z, z.marks(0, 1), 1, 13);
    SmellBurdens first = Due.with("n11111m000l0801");
    marksAre("no MARKS at all", first, first.marks(0, 1), 1, 0);
    SmellBurdens last = Due.with("n11111m150l0701");
    marksAre("MARK 3 alone", last, last.marks(0, 1), 1, 15);
  }

  @Holds(promise = 26, words = "NONE: by none.")
  static void byNoMarks() {
    SmellBurdens x = Due.with("n00000a150l1504");
    x.ass(0, 1);
    Edge.still("no ROAD goes there", x, Edge.NONE, () -> x.marks(0, 20));
    SmellBurdens y = Due.with("n12340a151l1504");
    Edge.still("nobody comes", y, Edge.NONE, () -> y.marks(0, 20));
    SmellBurdens z = Due.with("n12340a150l1504");
    Edge.still("a DAY too early", z, Edge.NONE, () -> z.marks(0, 3));
    Edge.is("in time", z.marks(0, 4), 0);
  }

  @Holds(promise = 26, words = "BAD.")
  static void marksOfNoSuchLoadOrDayIsBad() {
    SmellBurdens x = Due.with(TWENTY);
    Edge.badOutside("marks(.., 1)", x, 0, 4, l -> x.marks(l, 1));
    Edge.badOutside("marks(0, ..)", x, 0, 20, n -> x.marks(0, n));
    SmellBurdens y = Due.with(Edge.WALK);
    Edge.badOutside("marks(.., 20)", y, 0, 0, l -> y.marks(l, 20));
    Edge.takenInside("marks(0, ..)", x.marks(0, 0), x.marks(0, 20));
  }
}
