import java.util.function.IntUnaryOperator;

/** Promises 30 to 32, sentence by sentence: by what one took. */
final class EdgeGuessTests {
  private static final int ALL_MEMORIES = 65535, ALL_KINDS = 63;
  private static final String FOUR = "n00000a050g130y022m110l0001";

  public static void main(String[] args) throws Exception {
    Edge.run(EdgeGuessTests.class);
  }

  private static SmellBurdens with(String signs, int... pairs) {
    SmellBurdens x = Due.with(signs);
    Due.fill(x, 0, pairs);
    return x;
  }

  private static int ask(SmellBurdens x, int which, int i, int r) {
    switch (which) {
      case 30:
        return x.memories(i, r);
      case 31:
        return x.kinds(i, r);
      default:
        return x.next(i, r);
    }
  }

  private static void badNumbers(int which) {
    SmellBurdens x = with(FOUR);
    x.row(5, 0);
    IntUnaryOperator byAss = i -> ask(x, which, i, 0);
    Edge.badOutside("of an ASS", x, 0, 3, byAss);
    Edge.badOutside("by a ROW", x, 0, 5, r -> ask(x, which, 0, r));
    Edge.badOutside("ahead of NOTHING", x, 0, 3, i -> ask(x, which, i, 1));
    Edge.takenInside("of an ASS", byAss.applyAsInt(0), byAss.applyAsInt(3));
    Edge.takenInside("by a ROW", ask(x, which, 0, 0), ask(x, which, 0, 5));
    SmellBurdens y = with(Edge.WALK, 16, 16, 16);
    Edge.badOutside("ahead of SIZE, UNLIKE", y, 0, 0, i -> ask(y, which, i, 0));
  }

  private static void missing(int which) {
    SmellBurdens x = with(FOUR, 5, 1);
    Edge.found("ROW 1", x, Edge.NOTHING, () -> ask(x, which, 0, 1));
    Edge.found("ROW 5", x, Edge.NOTHING, () -> ask(x, which, 3, 5));
    x.tear(0);
    Edge.found("a torn one", x, Edge.NOTHING, () -> ask(x, which, 0, 0));
  }

  /** Sizes 0, 2, .. 16 are pairs, 0 to 8; all others are not as due, or too many. */
  private static void sizes(int which) {
    SmellBurdens x = with(FOUR);
    for (int size = 0; size <= 40; size++) {
      x.row(0, size);
      boolean pairs = size <= 16 && size % 2 == 0;
      int answer = ask(x, which, 0, 0);
      Edge.is("a ROW of " + size, answer == Edge.FINDING ? x.finding() : 0, pairs ? 0 : Edge.SIZE);
    }
    Due.fill(x, 1, 99);
    Edge.found("ahead of UNLIKE", x, Edge.SIZE, () -> ask(x, which, 0, 1));
    x.row(1, 18);
    x.lay(1, 0, -1);
    Edge.found("ahead of UNLIKE", x, Edge.SIZE, () -> ask(x, which, 0, 1));
  }

  private static void pairsThatAreNone(int which) {
    int[] sets = {-1, 16, Edge.LEAST, Edge.MOST};
    int[] took = {-1, 2, Edge.LEAST, Edge.MOST};
    SmellBurdens x = with(FOUR);
    for (int place = 0; place < 16; place++) {
      for (int v : place % 2 == 0 ? sets : took) {
        x.row(0, 16);
        x.lay(0, place, v);
        int before = x.findings(Edge.UNLIKE);
        Edge.is("place " + place + " is " + v, ask(x, which, 0, 0), Edge.FINDING);
        Edge.is("findings()", x.findings(Edge.UNLIKE), before + 1);
      }
    }
    int[][] fine = {{0, 0}, {15, 0}, {0, 1}, {15, 1}};
    for (int[] pair : fine) {
      Due.fill(x, 1, pair);
      Edge.is("the first and the last are", ask(x, which, 0, 1) >= 0 ? 1 : 0, 1);
    }
  }

  // ---- the ROW of pairs

  @Holds(promise = 0, words = "(a ROW of pairs, 0 to 8: a set of MARKS 0 .. 15, whether it took such a LOAD alone 1, or REFUSED it 0;")
  static void noneToEightPairs() {
    Edge.is("none", with(Edge.WALK).memories(0, 0), ALL_MEMORIES);
    SmellBurdens one = with(Edge.WALK, 15, 0);
    Edge.is("one", one.memories(0, 0), 1);
    SmellBurdens eight = with(Edge.WALK, 0, 1, 0, 1, 0, 1, 0, 1, 0, 1, 0, 1, 0, 1, 15, 0);
    Edge.is("eight, the last tells", eight.memories(0, 0), 1);
    SmellBurdens first = with(Edge.WALK, 15, 0, 0, 1, 0, 1, 0, 1, 0, 1, 0, 1, 0, 1, 0, 1);
    Edge.is("eight, the first tells", first.memories(0, 0), 1);
  }

  @Holds(promise = 0, words = "its MEMORY is the same by all of these, of a YOUNG one, too: NOTHING; SIZE; UNLIKE; behind BAD).")
  static void aYoungOnesMemoryIsTheSameByAll() {
    // would it remember 0 behind the first pair, it would REFUSE 15: no MEMORY could be left
    SmellBurdens x = with("n00000y150l0001", 0, 1, 15, 1);
    Edge.is("all but those of none, of all", x.memories(0, 0), ALL_MEMORIES - 1 - (1 << 15));
    SmellBurdens y = with("n00000y010l0001", 0, 1, 15, 1, 14, 0);
    Edge.is("YOUNG by its MEMORY now", y.kinds(0, 0), 1 | 1 << 2);
  }

  // ---- 30

  @Holds(promise = 30, words = "Which MEMORIES (bits 0 .. 15) one can have by these.")
  static void noneOneAndAllMemories() {
    Edge.is("all", with(FOUR).memories(0, 0), ALL_MEMORIES);
    Edge.is("MEMORY 0", with(FOUR, 15, 0).memories(0, 0), 1);
    Edge.is("MEMORY 15", with(FOUR, 0, 0).memories(0, 0), 1 << 15);
    Edge.is("none", with(FOUR, 0, 0, 0, 1).memories(0, 0), 0);
    Edge.is("a GREY that REFUSES 15", with(FOUR, 15, 0).memories(1, 0), 1);
    Edge.is("a GREY always REFUSES 0", with(FOUR, 0, 0).memories(1, 0), ALL_MEMORIES);
    Edge.is("a GREY never TAKES 0", with(FOUR, 0, 1).memories(1, 0), 0);
    Edge.is("a MULE that TAKES 15", with(FOUR, 15, 1).memories(3, 0), 1 << 15);
    Edge.is("a MULE that REFUSES 15", with(FOUR, 15, 0).memories(3, 0), ALL_MEMORIES - (1 << 15));
    // of 15 by 3 or 4: 7, 11, 13, 14, 15
    Edge.is("a STUBBORN one that TAKES 15", with("n00000s000l0001", 15, 1).memories(0, 0), 0xE880);
    Edge.is("an OLD one as a GREY", with("n00000o000l0001", 3, 0).memories(0, 0), 0x1111);
  }

  @Holds(promise = 30, words = "BAD;")
  static void memoriesOfNoSuchAssOrRowIsBad() {
    badNumbers(30);
  }

  @Holds(promise = 30, words = "NOTHING;")
  static void memoriesByAMissingRowIsNothing() {
    missing(30);
  }

  @Holds(promise = 30, words = "SIZE;")
  static void memoriesByNoPairsIsSize() {
    sizes(30);
  }

  @Holds(promise = 30, words = "UNLIKE.")
  static void memoriesByANumberThatIsNoneIsUnlike() {
    pairsThatAreNone(30);
  }

  // ---- 31

  @Holds(promise = 31, words = "Of which KINDS (bits) one can be, of its MEMORY.")
  static void noneOneAndAllKinds() {
    Edge.is("all", with(FOUR).kinds(0, 0), ALL_KINDS);
    Edge.is("none", with(FOUR, 5, 1, 5, 0).kinds(0, 0), 0);
    // MEMORY 5; 7 is LIKE by 3 to a STUBBORN one; 2 is LIKE by 1 to an ASS, not in both
    Edge.is("STUBBORN alone", with(FOUR, 7, 1, 2, 0, 15, 0).kinds(0, 0), 1 << 3);
    Edge.is("MULE alone", with(FOUR, 5, 1, 7, 0).kinds(0, 0), 1 << 5);
    Edge.is("ASS, YOUNG", with(FOUR, 2, 1).kinds(0, 0), 1 | 1 << 2);
    Edge.is("GREY, OLD", with(FOUR, 15, 1, 0, 0).kinds(0, 0), 1 << 1 | 1 << 4);
    Edge.is("OLD: LIKE by 2 is no more", with(FOUR, 4, 1, 8, 0, 2, 0).kinds(0, 0), 1 << 1 | 1 << 3 | 1 << 4);
  }

  @Holds(promise = 31, words = "Of which KINDS (bits) one can be, of its MEMORY.")
  static void kindsByTheMemoryOfTheAssNow() {
    SmellBurdens x = with("n00000y150m004l0704", 15, 0);
    Edge.is("of 15 all TAKE 15", x.kinds(0, 0), 0);
    Edge.is("of 0 all REFUSE 15", x.kinds(1, 0), ALL_KINDS);
    x.day();
    Edge.is("of 7 a MULE alone", x.kinds(0, 0), 1 << 5);
    x.undo(0);
    Edge.is("of 15 again", x.kinds(0, 0), 0);
  }

  @Holds(promise = 31, words = "BAD;")
  static void kindsOfNoSuchAssOrRowIsBad() {
    badNumbers(31);
  }

  @Holds(promise = 31, words = "NOTHING;")
  static void kindsByAMissingRowIsNothing() {
    missing(31);
  }

  @Holds(promise = 31, words = "SIZE;")
  static void kindsByNoPairsIsSize() {
    sizes(31);
  }

  @Holds(promise = 31, words = "UNLIKE.")
  static void kindsByANumberThatIsNoneIsUnlike() {
    pairsThatAreNone(31);
  }

  // ---- 32

  private static void nextIs(String call, String signs, int want, int told, int... pairs) {
    SmellBurdens x = with(signs, pairs);
    Edge.is(call, x.next(0, 0), want);
    Edge.is(call + ", then asked()", x.asked(), told);
  }

  @Holds(promise = 32, words = "Which MARKS (0 .. 15; the first) the next LOAD should have so that these MEMORIES are told apart best:")
  static void theFirstOfLikeMarks() {
    // by each set 15 of 16 MEMORIES are LIKE by 1 or more; all sets are as good
    nextIs("ASS, of all", "n00000a000l0001", 0, 15);
    // one MARK halves them: 1 is the first
    nextIs("GREY, of all", "n00000g000l0001", 1, 8);
    // a set is LIKE by 3, 4 to 5 of 16
    nextIs("STUBBORN, of all", "n00000s000l0001", 0, 11);
    nextIs("MULE, of all", "n00000m000l0001", 0, 15);
    nextIs("GREY, all but MARK 3 are known", "n00000g000l0001", 8, 1, 7, 0);
  }

  // All rows of pairs were tried apart from the program: none has 14 or 15 for its answer.
  @Holds(promise = 32, words = "Which MARKS (0 .. 15; the first) the next LOAD should have")
  static void theLastMarksThatAreEverBest() {
    // left are 4, 8, 12, 13, 14, 15: by 13 the half (12, 13, 15) TAKE it, by all ahead fewer or more
    nextIs("STUBBORN: 13 tells best", "n00000s000l0001", 13, 3, 1, 0, 2, 0, 3, 0);
    nextIs("GREY: 7 or 15, 8 tells", "n00000g000l0001", 8, 1, 1, 1, 2, 1, 4, 1);
  }

  @Holds(promise = 32, words = "the greater number of those that TAKE it, or REFUSE it, is least; that by asked().")
  static void theGreaterNumberIsTold() {
    nextIs("one MEMORY", "n00000a000l0001", 0, 1, 15, 0);
    nextIs("two, told apart", "n00000g000l0001", 8, 1, 7, 0);
    nextIs("four, by halves", "n00000g000l0001", 4, 2, 3, 0);
    nextIs("three, 2 and 1", "n00000g000l0001", 1, 2, 12, 0, 3, 1);
    nextIs("fifteen, 8 and 7", "n00000g000l0001", 1, 8, 15, 1);
  }

  @Holds(promise = 32, words = "NONE: there is no MEMORY.")
  static void noMemoryIsLeft() {
    SmellBurdens x = with("n00000a000l0001", 5, 1, 5, 0);
    x.ass(0, 0);
    Edge.still("next(0, 0)", x, Edge.NONE, () -> x.next(0, 0));
    SmellBurdens y = with("n00000g000l0001", 0, 1);
    Edge.still("a GREY that TAKES 0", y, Edge.NONE, () -> y.next(0, 0));
  }

  @Holds(promise = 32, words = "BAD;")
  static void nextOfNoSuchAssOrRowIsBad() {
    badNumbers(32);
  }

  @Holds(promise = 32, words = "NOTHING;")
  static void nextByAMissingRowIsNothing() {
    missing(32);
  }

  @Holds(promise = 32, words = "SIZE;")
  static void nextByNoPairsIsSize() {
    sizes(32);
  }

  @Holds(promise = 32, words = "UNLIKE.")
  static void nextByANumberThatIsNoneIsUnlike() {
    pairsThatAreNone(32);
  }
}
