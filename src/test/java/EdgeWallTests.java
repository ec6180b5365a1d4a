/** Promises 27, 28, 29 and 33, sentence by sentence: along the wall, and by turns. */
final class EdgeWallTests {
  public static void main(String[] args) throws Exception {
    Edge.run(EdgeWallTests.class);
  }

  private static void matchIs(String signs, int want, int... row) {
    SmellBurdens x = Due.with(signs);
    Edge.is("match(5) of " + signs, x.match(5), want);
    Edge.rowIs("match(5) of " + signs, x, 5, row);
  }

  // ---- 27

  @Holds(promise = 27, words = "The most that LOADS, each given to one ASS at its INN at most, each ASS one at most")
  static void eachLoadAndEachAssOnceAtMost() {
    matchIs("n00000a150a150a150a150l1504", 4, Edge.NONE, Edge.NONE, Edge.NONE, 0);
    matchIs("n00000a150l1504l1504l1504l1504l1504", 4, 0);
    matchIs("n00000o150o150o150o150l1504l1504l1504l1504l1504", 32, 0, 1, 2, 3);
    matchIs("n00000a150o154l1544l1504", 4, 1, Edge.NONE);
  }

  @Holds(promise = 27, words = "LOADS, each given to one ASS at its INN at most")
  static void onlyAtItsInn() {
    matchIs("n00000a150a151a152a153l1514l1524l1534l1504", 16, 3, 0, 1, 2);
    matchIs("n00000a154l1504l1514l1524l1534", 0, Edge.NONE);
  }

  @Holds(promise = 27, words = "none REFUSED")
  static void noneRefused() {
    matchIs("n00000a150l0004", 0, Edge.NONE);
    matchIs("n00000a150l0104", 1, 0);
    matchIs("n00000s150l0304", 0, Edge.NONE);
    matchIs("n00000s150l0704", 3, 0);
    matchIs("n00000m150l0704", 0, Edge.NONE);
    matchIs("n00000m150l1504", 4, 0);
    matchIs("n00000g010l1404", 0, Edge.NONE);
    matchIs("n00000o010l1504", 2, 0);
  }

  @Holds(promise = 27, words = "none at its HOME, can be LIKE to these together;")
  static void noneAtItsHome() {
    matchIs("n00000a150l1500", 0, Edge.NONE);
    matchIs("n00000a150l1500l0104", 1, 1);
    matchIs("n00000a154l1540l1544", 4, 0);
  }

  @Holds(promise = 27, words = "can be LIKE to these together;")
  static void togetherIsMoreThanByTheLine() {
    // by the LINE: LOAD 0 to ASS 0 (4), nothing is left for the MULE
    matchIs("n00000a150m150l1504l0704", 7, 1, 0);
    matchIs("n00000a150a070l0704l1504", 8, 1, 0);
    matchIs("n00000o030g030l0104l0304", 5, 1, 0);
    matchIs("n00000a150o150l1504", 8, Edge.NONE, 0);
    matchIs("n00000a150a150o150o150l1504l1504", 16, Edge.NONE, Edge.NONE, 0, 1);
  }

  @Holds(promise = 27, words = "the first such row (NONE for none ahead of LOAD 0, 1, ..; ASS by ASS) comes to a ROW (anew).")
  static void theFirstSuchRow() {
    matchIs("n00000a150a150l1504l1504", 8, 0, 1);
    matchIs("n00000a150a150l1504", 4, Edge.NONE, 0);
    matchIs("n00000a150l0304l0504l1204", 2, 0);
    matchIs("n00000a150a150a150l1504l0704", 7, Edge.NONE, 0, 1);
    matchIs("n00000a030a050l0304l0504", 8, 0, 1);
    // 3 and 2, or 4 and 1
    matchIs("n00000a150g100l0704l1504", 5, 0, 1);
    matchIs("n00000g150g150l0704l0304", 5, 0, 1);
  }

  @Holds(promise = 27, words = "The most that LOADS, each given to one ASS at its INN at most")
  static void aSmallerPlainBehindAGreaterOne() {
    SmellBurdens x = Due.with("n00000o150o150o150o150l1504l1504l1504l1504l1504");
    Edge.is("four", x.match(0), 32);
    Due.write(x, 1, "n00000a150l0104l0304");
    x.plain(1);
    Edge.is("one", x.match(0), 2);
    Edge.rowIs("one", x, 0, 1);
    Due.write(x, 1, "n00000a150a000l0004");
    x.plain(1);
    Edge.is("two", x.match(0), 4);
    Edge.rowIs("two", x, 0, Edge.NONE, 0);
  }

  @Holds(promise = 27, words = "comes to a ROW (anew).")
  static void theRowComesAnew() {
    SmellBurdens x = Due.with("n00000a150a150l1504");
    Due.fill(x, 0, 7, 7, 7, 7, 7, 7);
    Edge.is("match(0)", x.match(0), 4);
    Edge.rowIs("of a longer one", x, 0, Edge.NONE, 0);
    x.row(0, 0);
    Edge.is("match(0)", x.match(0), 4);
    Edge.rowIs("of one of none", x, 0, Edge.NONE, 0);
    Edge.is("ROWS", x.count(8), 1);
    Edge.is("match(3)", x.match(3), 4);
    Edge.is("of a missing one", x.count(8), 2);
  }

  @Holds(promise = 27, words = "BAD;")
  static void matchToNoSuchRowIsBad() {
    SmellBurdens x = Due.with(Edge.WALK);
    Edge.badOutside("match(..)", x, 0, 5, x::match);
    Edge.takenInside("match(..)", x.match(0), x.match(5));
  }

  @Holds(promise = 27, words = "STATE: no ASSES.")
  static void matchWithoutAssesIsState() {
    SmellBurdens x = new SmellBurdens();
    Due.fill(x, 1, 7);
    Edge.still("match(0)", x, Edge.STATE, () -> x.match(0));
    Edge.still("match(1)", x, Edge.STATE, () -> x.match(1));
  }

  // ---- 28

  private static void lineIs(String signs, int i, int l, int want, int... row) {
    SmellBurdens x = Due.with(signs);
    Edge.is("line(" + i + ", " + l + ", 5) of " + signs, x.line(i, l, 5), want);
    Edge.rowIs("the first of " + signs, x, 5, row);
  }

  @Holds(promise = 28, words = "By how many orders of the LINE a LOAD is taken by an ASS today;")
  static void byOneToTwentyFourOrders() {
    lineIs("n00000a150l1504", 0, 0, 1, 0);
    lineIs("n00000a150a151l1504", 0, 0, 2, 0, 1);
    lineIs("n00000a151a152a150l1504", 2, 0, 6, 0, 1, 2);
    lineIs("n00000a150a151a152a153l1504", 0, 0, 24, 0, 1, 2, 3);
    lineIs("n00000a150a150a150a150l1504", 3, 0, 6, 3, 0, 1, 2);
  }

  @Holds(promise = 28, words = "By how many orders of the LINE a LOAD is taken by an ASS today;")
  static void whatIsLeftForTheLastOfTheLine() {
    // all LOADS are like: who is p-th in the LINE takes LOAD p
    String signs = "n00000a150a150a150a150l1504l1504l1504l1504l1504";
    lineIs(signs, 0, 0, 6, 0, 1, 2, 3);
    lineIs(signs, 0, 1, 6, 1, 0, 2, 3);
    lineIs(signs, 0, 3, 6, 1, 2, 3, 0);
    lineIs(signs, 3, 3, 6, 0, 1, 2, 3);
    lineIs(signs, 3, 0, 6, 3, 0, 1, 2);
    SmellBurdens x = Due.with(signs);
    Edge.still("nobody takes LOAD 4", x, Edge.NONE, () -> x.line(3, 4, 0));
  }

  @Holds(promise = 28, words = "the first of these (ASSES, the first in the LINE ahead, by numbers) comes to a ROW (anew).")
  static void theFirstOrderByNumbers() {
    // ASS 1 has LOAD 1 only behind one that took LOAD 0
    lineIs("n00000a150a150a151l1504l0704", 1, 1, 3, 0, 1, 2);
    lineIs("n00000a150a150a151l1504l0704", 0, 1, 3, 1, 0, 2);
    lineIs("n00000a151a150a150l1504l0704", 1, 1, 3, 0, 2, 1);
  }

  @Holds(promise = 28, words = "comes to a ROW (anew).")
  static void theOrderComesAnew() {
    SmellBurdens x = Due.with("n00000a150a150l1504");
    Due.fill(x, 0, 7, 7, 7, 7);
    Edge.is("line(1, 0, 0)", x.line(1, 0, 0), 1);
    Edge.rowIs("of a longer one", x, 0, 1, 0);
    Edge.is("line(0, 0, 4)", x.line(0, 0, 4), 1);
    Edge.rowIs("of a missing one", x, 4, 0, 1);
    Edge.is("aside", x.count(3), 0);
  }

  @Holds(promise = 28, words = "NONE: by none.")
  static void byNoOrder() {
    SmellBurdens x = Due.with("n00000m150a151a150a000l0704l1500l1504");
    Due.fill(x, 2, 7, 7, 7, 7);
    Edge.still("it REFUSES it", x, Edge.NONE, () -> x.line(0, 0, 2));
    Edge.still("it is at another INN", x, Edge.NONE, () -> x.line(1, 2, 2));
    Edge.still("it is at its HOME", x, Edge.NONE, () -> x.line(2, 1, 2));
    Edge.still("nothing in common", x, Edge.NONE, () -> x.line(3, 2, 2));
    Edge.still("into a missing ROW", x, Edge.NONE, () -> x.line(0, 0, 3));
    SmellBurdens y = Due.with("n00000a150a151l1504l0704");
    Edge.still("there is always a better one", y, Edge.NONE, () -> y.line(0, 1, 2));
  }

  @Holds(promise = 28, words = "BAD.")
  static void lineOfNoSuchAssLoadOrRowIsBad() {
    SmellBurdens x = Due.with("n00000a150a150a150a150l1504l1504l1504l1504l1504");
    Edge.badOutside("line(.., 0, 0)", x, 0, 3, i -> x.line(i, 0, 0));
    Edge.badOutside("line(0, .., 0)", x, 0, 4, l -> x.line(0, l, 0));
    Edge.badOutside("line(0, 0, ..)", x, 0, 5, r -> x.line(0, 0, r));
    Edge.badOutside("line(3, 4, ..), by none", x, 0, 5, r -> x.line(3, 4, r));
    SmellBurdens y = Due.with(Edge.WALK);
    Edge.badOutside("line(.., 0, 0)", y, 0, 0, i -> y.line(i, 0, 0));
    Edge.badOutside("line(0, .., 0)", y, 0, 0, l -> y.line(0, l, 0));
    Edge.takenInside("line(0, 0, ..)", x.line(0, 0, 0), x.line(0, 0, 5));
    Edge.takenInside("line(0, .., 0)", x.line(0, 0, 0), x.line(0, 4, 0));
    Edge.takenInside("line(.., 0, 0)", x.line(0, 0, 0), x.line(3, 0, 0));
  }

  // ---- 29

  private static void coverIs(String signs, int want, int who) {
    SmellBurdens x = Due.with(signs);
    Edge.is("cover() of " + signs, x.cover(), want);
    Edge.is("who, of " + signs, x.asked(), who);
  }

  @Holds(promise = 29, words = "The fewest ASSES of whom, for each LOAD (wherever it is), one at least would not REFUSE it;")
  static void oneToFourAssesAreEnough() {
    coverIs("n00000m000l0001", 1, 1);
    coverIs("n00000m000m010l0001l0122", 2, 3);
    coverIs("n00000m000m010m020l0001l0122l0233", 3, 7);
    coverIs("n00000m000m010m020m040l0001l0122l0233l0444", 4, 15);
    coverIs("n00000m000m010m020a154l0122l0233l0444", 1, 8);
    coverIs("n00000m000m010m020m040l0444", 1, 8);
  }

  @Holds(promise = 29, words = "one at least would not REFUSE it;")
  static void wouldNotRefuseByLeastLikeness() {
    coverIs("n00000s150l0701", 1, 1);
    coverIs("n00000a150l0101", 1, 1);
    coverIs("n00000g150l0101", 1, 1);
    SmellBurdens s = Due.with("n00000s150l0301");
    Edge.still("STUBBORN, LIKE by 2", s, Edge.NONE, s::cover);
    SmellBurdens m = Due.with("n00000m150l0701");
    Edge.still("MULE, LIKE by 3", m, Edge.NONE, m::cover);
  }

  @Holds(promise = 29, words = "who by asked() (bits; of as few the least number).")
  static void ofAsFewTheLeastSet() {
    coverIs("n00000m000m000m000m000l0001", 1, 1);
    coverIs("n00000m010m000m000m000l0001", 1, 2);
    // 5, 6, 9, 10 would do
    coverIs("n00000m000m000m010m010l0001l0101", 2, 5);
    coverIs("n00000m030m000m010m010l0001l0101", 2, 6);
  }

  @Holds(promise = 29, words = "NONE: not all together.")
  static void notAllTogether() {
    SmellBurdens x = Due.with("n00000m000m010m020m040l0001l0101l0201l0401l0801");
    Edge.still("only the last is REFUSED by all", x, Edge.NONE, x::cover);
    SmellBurdens y = Due.with("n00000m000m010m020m040l0800l0001l0101l0201l0401");
    Edge.still("only the first, at its HOME", y, Edge.NONE, y::cover);
  }

  @Holds(promise = 29, words = "STATE: no ASSES.")
  static void coverWithoutAssesIsState() {
    SmellBurdens x = new SmellBurdens();
    Edge.still("cover()", x, Edge.STATE, x::cover);
  }

  // ---- 33

  @Holds(promise = 33, words = "By turns two change a MARK of a LOAD, or none, n (0 .. 2) times each:")
  static void noTurnOneAndTwo() {
    // one MARK away the MULE would take it; the other one changes it again at once
    SmellBurdens x = Due.with("n00000m150l0701");
    Edge.still("n 0", x, 0, () -> x.duel(0, 0));
    Edge.still("n 1", x, 0, () -> x.duel(0, 1));
    Edge.still("n 2", x, 0, () -> x.duel(0, 2));
    // a GREY that remembers one MARK: the first one puts it on, the other one takes it off
    SmellBurdens y = Due.with("n00000g010l0101");
    Edge.still("n 0", y, 1, () -> y.duel(0, 0));
    Edge.still("n 1", y, 0, () -> y.duel(0, 1));
    // nothing in common: the first one makes it LIKE by 1, the other one by 0 again
    SmellBurdens z = Due.with("n00000a150l0001");
    Edge.still("n 0", z, 0, () -> z.duel(0, 0));
    Edge.still("n 1", z, 0, () -> z.duel(0, 1));
    Edge.still("n 2", z, 0, () -> z.duel(0, 2));
    // LIKE by 1: by 2, then by 1
    SmellBurdens w = Due.with("n00000a150l0101");
    Edge.still("n 1", w, 1, () -> w.duel(0, 1));
    Edge.still("n 2", w, 1, () -> w.duel(0, 2));
  }

  @Holds(promise = 33, words = "how many ASSES (wherever they are) would not REFUSE it then, the first one wanting many, the other one few.")
  static void noneToFourAssesWouldNotRefuseIt() {
    SmellBurdens all = Due.with("n00000a150a151a152a153l1544");
    Edge.still("as it is", all, 4, () -> all.duel(0, 0));
    Edge.still("far from what they REFUSE", all, 4, () -> all.duel(0, 2));
    SmellBurdens none = Due.with("n00000m000m000m000m000l1501");
    Edge.still("as it is", none, 0, () -> none.duel(0, 0));
    Edge.still("too far", none, 0, () -> none.duel(0, 2));
    SmellBurdens two = Due.with("n00000a154m150m000a004l1501");
    Edge.still("as it is", two, 2, () -> two.duel(0, 0));
    Edge.still("the MULE is lost, the other ASS is won", two, 2, () -> two.duel(0, 1));
  }

  @Holds(promise = 33, words = "how many ASSES (wherever they are) would not REFUSE it then")
  static void noMarksAndAllMarks() {
    for (int n = 0; n <= 2; n++) {
      int turns = n;
      SmellBurdens x = Due.with("n00000s000l0001");
      Edge.still("no MARKS, n " + n, x, 1, () -> x.duel(0, turns));
      SmellBurdens y = Due.with("n00000s150l1501");
      Edge.still("all MARKS, n " + n, y, 1, () -> y.duel(0, turns));
    }
  }

  @Holds(promise = 33, words = "or none, n (0 .. 2) times each:")
  static void nobodyNeedsToChange() {
    // LIKE by 4: it is not REFUSED by 3, but by the 2 of a second change
    SmellBurdens x = Due.with("n00000s150l1501");
    Edge.still("the first one leaves it", x, 1, () -> x.duel(0, 1));
    Edge.still("and mends it", x, 1, () -> x.duel(0, 2));
    // only of no MARKS it is REFUSED: all that could be changed would be worse for the other one
    SmellBurdens y = Due.with("n00000a150l0001");
    Edge.still("the other one leaves it, if the first one does", y, 0, () -> y.duel(0, 1));
  }

  @Holds(promise = 33, words = "BAD.")
  static void duelOfNoSuchLoadOrTurnsIsBad() {
    SmellBurdens x = Due.with("n00000a150" + "l1501".repeat(5));
    Edge.badOutside("duel(.., 0)", x, 0, 4, l -> x.duel(l, 0));
    Edge.badOutside("duel(0, ..)", x, 0, 2, n -> x.duel(0, n));
    SmellBurdens y = Due.with(Edge.WALK);
    Edge.badOutside("duel(.., 2)", y, 0, 0, l -> y.duel(l, 2));
    Edge.takenInside("duel(.., 2)", x.duel(0, 2), x.duel(4, 2));
  }
}
