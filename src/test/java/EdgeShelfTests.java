import java.util.Arrays;

/** Promises 1 to 9, sentence by sentence: a new object, ROWS, TEXTS. */
final class EdgeShelfTests {
  private static final int MOST_INTS = 40, MOST_BYTES = 60;

  public static void main(String[] args) throws Exception {
    Edge.run(EdgeShelfTests.class);
  }

  private static int[] ints(int n, int value) {
    int[] all = new int[n];
    Arrays.fill(all, value);
    return all;
  }

  private static SmellBurdens withRow(int r, int... values) {
    SmellBurdens x = new SmellBurdens();
    Due.fill(x, r, values);
    return x;
  }

  // ---- 1

  @Holds(promise = 1, words = "No ROWS")
  static void noRowsAtFirst() {
    SmellBurdens x = new SmellBurdens();
    Edge.is("count(8)", x.count(8), 0);
    for (int r = 0; r < 6; r++) {
      int row = r;
      Edge.found("tear(" + r + ")", x, Edge.NOTHING, () -> x.tear(row));
    }
  }

  @Holds(promise = 1, words = "TEXTS")
  static void noTextsAtFirst() {
    SmellBurdens x = new SmellBurdens();
    Edge.is("count(9)", x.count(9), 0);
    for (int t = 0; t < 4; t++) {
      int text = t;
      Edge.found("fault(" + t + ")", x, Edge.NOTHING, () -> x.fault(text));
    }
  }

  @Holds(promise = 1, words = "ASSES")
  static void noAssesAtFirst() {
    SmellBurdens x = new SmellBurdens();
    x.row(0, 0);
    Edge.is("count(0)", x.count(0), 0);
    Edge.is("count(6)", x.count(6), 0);
    Edge.is("count(7)", x.count(7), 0);
    Edge.still("ass(0, 0)", x, Edge.BAD, () -> x.ass(0, 0));
    Edge.still("mark(0, 1)", x, Edge.BAD, () -> x.mark(0, 1));
    Edge.still("lead(0, 0)", x, Edge.BAD, () -> x.lead(0, 0));
    Edge.still("like(0, 0)", x, Edge.BAD, () -> x.like(0, 0));
    Edge.still("memories(0, 0)", x, Edge.BAD, () -> x.memories(0, 0));
    Edge.still("kinds(0, 0)", x, Edge.BAD, () -> x.kinds(0, 0));
    Edge.still("next(0, 0)", x, Edge.BAD, () -> x.next(0, 0));
    Edge.still("line(0, 0, 0)", x, Edge.BAD, () -> x.line(0, 0, 0));
    Edge.still("day()", x, Edge.STATE, x::day);
  }

  @Holds(promise = 1, words = "LOADS.")
  static void noLoadsAtFirst() {
    SmellBurdens x = new SmellBurdens();
    Edge.is("count(1)", x.count(1), 0);
    Edge.is("count(4)", x.count(4), 0);
    Edge.still("load(0, 0)", x, Edge.BAD, () -> x.load(0, 0));
    Edge.still("smear(0, 0)", x, Edge.BAD, () -> x.smear(0, 0));
    Edge.still("where(0, 0)", x, Edge.BAD, () -> x.where(0, 0));
    Edge.still("marks(0, 0)", x, Edge.BAD, () -> x.marks(0, 0));
    Edge.still("duel(0, 0)", x, Edge.BAD, () -> x.duel(0, 0));
    Edge.still("odds(0, 0)", x, Edge.BAD, () -> x.odds(0, 0));
  }

  @Holds(promise = 0, words = "ROWS 0 .. 5 are rows of 0 to 40 ints")
  static void sixRowsOfUpToFortyInts() {
    SmellBurdens x = new SmellBurdens();
    for (int r = 0; r < 6; r++) {
      Edge.is("row(" + r + ", 40)", x.row(r, MOST_INTS), MOST_INTS);
      Edge.told("its last place", x, x.lay(r, MOST_INTS - 1, 100 + r), 0);
      Edge.told("its first place", x, x.lay(r, 0, 200 + r), 0);
    }
    for (int r = 0; r < 6; r++) {
      Edge.told("its own last place", x, x.at(r, MOST_INTS - 1), 100 + r);
      Edge.told("its own first place", x, x.at(r, 0), 200 + r);
    }
    Edge.is("count(8)", x.count(8), 6);
  }

  @Holds(promise = 0, words = "TEXTS 0 .. 3 rows of 0 to 60 bytes, or missing (at first).")
  static void fourTextsOfUpToSixtyBytes() {
    SmellBurdens x = new SmellBurdens();
    for (int t = 0; t < 4; t++) {
      Edge.is("text(" + t + ", 60)", x.text(t, MOST_BYTES), MOST_BYTES);
      Edge.is("its last place", x.put(t, MOST_BYTES - 1, 10 + t), 1032);
      Edge.is("its first place", x.put(t, 0, 20 + t), 1032);
    }
    for (int t = 0; t < 4; t++) {
      Edge.is("its own last place", x.put(t, MOST_BYTES - 1, 0), 1010 + t);
      Edge.is("its own first place", x.put(t, 0, 0), 1020 + t);
    }
    Edge.is("count(9)", x.count(9), 4);
  }

  // ---- 2

  @Holds(promise = 2, words = "A ROW is there with n ints 0: n.")
  static void aRowOfNoneIsThere() {
    SmellBurdens x = new SmellBurdens();
    Edge.is("row(3, 0)", x.row(3, 0), 0);
    Edge.is("count(8)", x.count(8), 1);
    Edge.found("it is there, but has no place", x, Edge.BEYOND, () -> x.at(3, 0));
  }

  @Holds(promise = 2, words = "A ROW is there with n ints 0: n.")
  static void aRowOfFortyHolds0() {
    SmellBurdens x = new SmellBurdens();
    Edge.is("row(5, 40)", x.row(5, MOST_INTS), MOST_INTS);
    Edge.rowIs("row(5, 40)", x, 5, ints(MOST_INTS, 0));
  }

  @Holds(promise = 2, words = "A ROW is there with n ints 0: n.")
  static void aRowAnewForgetsWhatItWas() {
    SmellBurdens x = withRow(2, ints(MOST_INTS, 7));
    Edge.is("row(2, 1)", x.row(2, 1), 1);
    Edge.rowIs("smaller", x, 2, 0);
    Edge.is("row(2, 40)", x.row(2, MOST_INTS), MOST_INTS);
    Edge.rowIs("greater again", x, 2, ints(MOST_INTS, 0));
  }

  @Holds(promise = 2, words = "BAD: also n above 40;")
  static void aRowAbove40IsBad() {
    SmellBurdens x = withRow(0, 9);
    Edge.still("row(0, 41)", x, Edge.BAD, () -> x.row(0, 41));
    Edge.still("row(0, most)", x, Edge.BAD, () -> x.row(0, Edge.MOST));
  }

  @Holds(promise = 2, words = "BAD: also n above 40;")
  static void noSuchRowIsBad() {
    SmellBurdens x = new SmellBurdens();
    Edge.badOutside("row(.., 1)", x, 0, 5, r -> x.row(r, 1));
    Edge.takenInside("row(.., 1)", x.row(0, 1), x.row(5, 1));
  }

  @Holds(promise = 2, words = "SIZE: below 0.")
  static void aRowBelow0IsSize() {
    SmellBurdens x = withRow(0, 9);
    Edge.found("row(0, -1)", x, Edge.SIZE, () -> x.row(0, -1));
    Edge.found("row(0, least)", x, Edge.SIZE, () -> x.row(0, Edge.LEAST));
    Edge.found("row(1, -1)", x, Edge.SIZE, () -> x.row(1, -1));
    Edge.is("row(0, 0) is not", x.row(0, 0), 0);
  }

  // ---- 3

  @Holds(promise = 3, words = "Place i of a ROW is v: what it was, told by asked(): 1.")
  static void layAtTheFirstAndTheLastPlace() {
    SmellBurdens x = new SmellBurdens();
    x.row(5, MOST_INTS);
    Edge.told("lay(5, 0, most)", x, x.lay(5, 0, Edge.MOST), 0);
    Edge.told("lay(5, 39, least)", x, x.lay(5, 39, Edge.LEAST), 0);
    Edge.told("lay(5, 0, -1)", x, x.lay(5, 0, -1), Edge.MOST);
    Edge.told("lay(5, 39, 1)", x, x.lay(5, 39, 1), Edge.LEAST);
    Edge.told("lay(5, 0, 0)", x, x.lay(5, 0, 0), -1);
    Edge.told("the place beside it", x, x.at(5, 38), 0);
  }

  @Holds(promise = 3, words = "BAD;")
  static void layInNoSuchRowIsBad() {
    SmellBurdens x = withRow(0, 9);
    x.row(5, 1);
    Edge.badOutside("lay(.., 0, 1)", x, 0, 5, r -> x.lay(r, 0, 1));
    Edge.takenInside("lay(.., 0, 1)", x.lay(0, 0, 1), x.lay(5, 0, 1));
  }

  @Holds(promise = 3, words = "NOTHING;")
  static void layInAMissingRowIsNothing() {
    SmellBurdens x = withRow(0, 9);
    Edge.found("lay(1, 0, 1)", x, Edge.NOTHING, () -> x.lay(1, 0, 1));
    Edge.found("ahead of BEYOND", x, Edge.NOTHING, () -> x.lay(1, -1, 1));
  }

  @Holds(promise = 3, words = "BEYOND.")
  static void layAtNoPlaceIsBeyond() {
    SmellBurdens x = withRow(0, 9, 8);
    int[] places = {-1, 2, Edge.LEAST, Edge.MOST};
    for (int i : places) {
      Edge.found("lay(0, " + i + ", 1)", x, Edge.BEYOND, () -> x.lay(0, i, 1));
    }
    x.row(1, 0);
    Edge.found("lay(1, 0, 1)", x, Edge.BEYOND, () -> x.lay(1, 0, 1));
    Edge.rowIs("it stays", x, 0, 9, 8);
  }

  @Holds(promise = 3, words = "BEYOND.")
  static void layBehindTheLastOfAFullRowIsBeyond() {
    SmellBurdens x = new SmellBurdens();
    x.row(0, MOST_INTS);
    x.row(1, MOST_INTS);
    Edge.found("lay(0, 40, 1)", x, Edge.BEYOND, () -> x.lay(0, MOST_INTS, 1));
    Edge.found("lay(1, -1, 1)", x, Edge.BEYOND, () -> x.lay(1, -1, 1));
  }

  // ---- 4

  @Holds(promise = 4, words = "Place i of a ROW, told by asked(): 1.")
  static void atTheFirstAndTheLastPlace() {
    SmellBurdens x = new SmellBurdens();
    x.row(0, MOST_INTS);
    x.lay(0, 0, Edge.LEAST);
    x.lay(0, 39, Edge.MOST);
    Edge.told("at(0, 0)", x, x.at(0, 0), Edge.LEAST);
    Edge.told("at(0, 39)", x, x.at(0, 39), Edge.MOST);
    Edge.told("at(0, 0) again", x, x.at(0, 0), Edge.LEAST);
  }

  @Holds(promise = 4, words = "BAD;")
  static void atOfNoSuchRowIsBad() {
    SmellBurdens x = withRow(0, 9);
    x.row(5, 1);
    Edge.badOutside("at(.., 0)", x, 0, 5, r -> x.at(r, 0));
    Edge.takenInside("at(.., 0)", x.at(0, 0), x.at(5, 0));
  }

  @Holds(promise = 4, words = "NOTHING;")
  static void atOfAMissingRowIsNothing() {
    SmellBurdens x = withRow(0, 9);
    x.tear(0);
    Edge.found("at(0, 0) of a torn one", x, Edge.NOTHING, () -> x.at(0, 0));
    Edge.found("ahead of BEYOND", x, Edge.NOTHING, () -> x.at(1, 99));
  }

  @Holds(promise = 4, words = "BEYOND.")
  static void atNoPlaceIsBeyond() {
    SmellBurdens x = withRow(0, 9, 8);
    int[] places = {-1, 2, Edge.LEAST, Edge.MOST};
    for (int i : places) {
      Edge.found("at(0, " + i + ")", x, Edge.BEYOND, () -> x.at(0, i));
    }
    x.row(1, 0);
    Edge.found("at(1, 0) of none", x, Edge.BEYOND, () -> x.at(1, 0));
    x.row(2, MOST_INTS);
    Edge.found("at(2, 40)", x, Edge.BEYOND, () -> x.at(2, MOST_INTS));
  }

  // ---- 5

  @Holds(promise = 5, words = "A ROW is missing: 1.")
  static void aTornRowIsMissing() {
    SmellBurdens x = withRow(0, 9);
    Due.fill(x, 5);
    Edge.is("tear(0)", x.tear(0), 1);
    Edge.is("tear(5), of no ints", x.tear(5), 1);
    Edge.is("count(8)", x.count(8), 0);
    Edge.found("mean(0)", x, Edge.NOTHING, () -> x.mean(0));
    Edge.found("mean(5)", x, Edge.NOTHING, () -> x.mean(5));
    Edge.is("row(0, 1)", x.row(0, 1), 1);
    Edge.rowIs("it comes anew", x, 0, 0);
  }

  @Holds(promise = 5, words = "BAD;")
  static void noSuchRowIsTorn() {
    SmellBurdens x = withRow(0, 9);
    x.row(5, 1);
    Edge.badOutside("tear(..)", x, 0, 5, x::tear);
    Edge.takenInside("tear(..)", x.tear(0), x.tear(5));
  }

  @Holds(promise = 5, words = "NOTHING.")
  static void aMissingRowIsNotTorn() {
    SmellBurdens x = withRow(0, 9);
    Edge.found("tear(1)", x, Edge.NOTHING, () -> x.tear(1));
    x.tear(0);
    Edge.found("tear(0) twice", x, Edge.NOTHING, () -> x.tear(0));
  }

  // ---- 6

  @Holds(promise = 6, words = "n places of a ROW, from one on, come to those of another one")
  static void copyOfAWholeFullRow() {
    SmellBurdens x = new SmellBurdens();
    x.row(0, MOST_INTS);
    x.row(5, MOST_INTS);
    x.lay(0, 0, 3);
    x.lay(0, 39, 4);
    x.lay(5, 20, 5);
    Edge.is("copy(0, 0, 5, 0, 40)", x.copy(0, 0, 5, 0, MOST_INTS), 1);
    int[] want = ints(MOST_INTS, 0);
    want[0] = 3;
    want[39] = 4;
    Edge.rowIs("copied", x, 5, want);
  }

  @Holds(promise = 6, words = "from one on, as if taken ahead: 1.")
  static void copyOfTheLastPlaceAlone() {
    SmellBurdens x = withRow(0, 1, 2, 3);
    Due.fill(x, 1, 7, 8, 9, 10);
    Edge.is("copy(0, 2, 1, 3, 1)", x.copy(0, 2, 1, 3, 1), 1);
    Edge.rowIs("the last", x, 1, 7, 8, 9, 3);
    Edge.is("copy(0, 2, 1, 0, 1)", x.copy(0, 2, 1, 0, 1), 1);
    Edge.rowIs("the first", x, 1, 3, 8, 9, 3);
    Edge.rowIs("what was copied stays", x, 0, 1, 2, 3);
  }

  @Holds(promise = 6, words = "(perhaps itself) from one on, as if taken ahead: 1.")
  static void copyOntoItself() {
    SmellBurdens x = withRow(4, 1, 2, 3, 4, 5);
    Edge.is("on", x.copy(4, 0, 4, 2, 3), 1);
    Edge.rowIs("on", x, 4, 1, 2, 1, 2, 3);
    Edge.is("back", x.copy(4, 2, 4, 1, 3), 1);
    Edge.rowIs("back", x, 4, 1, 1, 2, 3, 3);
    Edge.is("where it is", x.copy(4, 0, 4, 0, 5), 1);
    Edge.rowIs("where it is", x, 4, 1, 1, 2, 3, 3);
  }

  @Holds(promise = 6, words = "BAD;")
  static void copyOfNoSuchRowIsBad() {
    SmellBurdens x = withRow(0, 9);
    x.row(5, 1);
    Edge.badOutside("copy(.., 0, 0, 0, 1)", x, 0, 5, r -> x.copy(r, 0, 0, 0, 1));
    Edge.badOutside("copy(0, 0, .., 0, 1)", x, 0, 5, r -> x.copy(0, 0, r, 0, 1));
    Edge.takenInside("copy(.., 0, 0, 0, 1)", x.copy(0, 0, 5, 0, 1), x.copy(5, 0, 0, 0, 1));
  }

  @Holds(promise = 6, words = "SIZE: n below 0;")
  static void copyOfFewerThanNoneIsSize() {
    SmellBurdens x = withRow(0, 9, 8);
    Edge.found("n -1", x, Edge.SIZE, () -> x.copy(0, 1, 0, 1, -1));
    Edge.found("n least", x, Edge.SIZE, () -> x.copy(0, 0, 0, 0, Edge.LEAST));
  }

  @Holds(promise = 6, words = "NOTHING: either;")
  static void copyOfOrToAMissingRowIsNothing() {
    SmellBurdens x = withRow(0, 9);
    Edge.found("of a missing one", x, Edge.NOTHING, () -> x.copy(1, 0, 0, 0, 0));
    Edge.found("to a missing one", x, Edge.NOTHING, () -> x.copy(0, 0, 1, 0, 0));
    Edge.found("both", x, Edge.NOTHING, () -> x.copy(1, 0, 1, 0, 1));
  }

  @Holds(promise = 6, words = "BEYOND: not so many there")
  static void copyOfMoreThanThereIsBeyond() {
    SmellBurdens x = withRow(0, 1, 2, 3);
    Due.fill(x, 1, 7, 8);
    Edge.found("too many of", x, Edge.BEYOND, () -> x.copy(1, 0, 0, 0, 3));
    Edge.found("too many of, behind", x, Edge.BEYOND, () -> x.copy(0, 2, 1, 0, 2));
    Edge.found("too many to", x, Edge.BEYOND, () -> x.copy(0, 0, 1, 0, 3));
    Edge.found("too many to, behind", x, Edge.BEYOND, () -> x.copy(0, 0, 1, 1, 2));
    Edge.found("i below 0", x, Edge.BEYOND, () -> x.copy(0, -1, 1, 0, 2));
    Edge.found("j below 0", x, Edge.BEYOND, () -> x.copy(0, 0, 1, -1, 2));
    Edge.found("i the size", x, Edge.BEYOND, () -> x.copy(0, 3, 1, 0, 1));
    Edge.found("j the size", x, Edge.BEYOND, () -> x.copy(0, 0, 1, 2, 1));
    Edge.rowIs("it stays", x, 1, 7, 8);
  }

  @Holds(promise = 6, words = "BEYOND: not so many there")
  static void copyDoesNotWrapRound() {
    SmellBurdens x = withRow(0, 1, 2, 3);
    Due.fill(x, 1, 7, 8, 9);
    Edge.found("i and n wrap round", x, Edge.BEYOND, () -> x.copy(0, 1, 1, 0, Edge.MOST));
    Edge.found("j and n wrap round", x, Edge.BEYOND, () -> x.copy(0, 0, 1, 2, Edge.MOST));
    Edge.found("i most", x, Edge.BEYOND, () -> x.copy(0, Edge.MOST, 1, 0, 1));
    Edge.found("j most", x, Edge.BEYOND, () -> x.copy(0, 0, 1, Edge.MOST, 1));
    Edge.found("i least", x, Edge.BEYOND, () -> x.copy(0, Edge.LEAST, 1, 0, Edge.MOST));
    Edge.found("j least", x, Edge.BEYOND, () -> x.copy(0, 0, 1, Edge.LEAST, 1));
    Edge.rowIs("it stays", x, 1, 7, 8, 9);
  }

  @Holds(promise = 6, words = "(with n 0, too, if i or j is below 0 or above the size).")
  static void copyOfNoneFromOutsideIsBeyond() {
    SmellBurdens x = withRow(0, 1, 2, 3);
    Due.fill(x, 1, 7, 8);
    Edge.found("i below 0", x, Edge.BEYOND, () -> x.copy(0, -1, 1, 0, 0));
    Edge.found("j below 0", x, Edge.BEYOND, () -> x.copy(0, 0, 1, -1, 0));
    Edge.found("i above the size", x, Edge.BEYOND, () -> x.copy(0, 4, 1, 0, 0));
    Edge.found("j above the size", x, Edge.BEYOND, () -> x.copy(0, 0, 1, 3, 0));
    Edge.is("i at the size", x.copy(0, 3, 1, 0, 0), 1);
    Edge.is("j at the size", x.copy(0, 0, 1, 2, 0), 1);
    x.row(2, 0);
    Edge.is("of none, to none", x.copy(2, 0, 2, 0, 0), 1);
    Edge.found("i above none", x, Edge.BEYOND, () -> x.copy(2, 1, 2, 0, 0));
    Edge.rowIs("it stays", x, 1, 7, 8);
  }

  @Holds(promise = 6, words = "(In this order.)")
  static void copyRefusesInThisOrder() {
    SmellBurdens x = withRow(0, 9);
    Edge.still("BAD ahead of SIZE", x, Edge.BAD, () -> x.copy(6, -1, 1, -1, -1));
    Edge.still("BAD ahead of SIZE", x, Edge.BAD, () -> x.copy(1, -1, 6, -1, -1));
    Edge.found("SIZE ahead of NOTHING", x, Edge.SIZE, () -> x.copy(1, -1, 2, -1, -1));
    Edge.found("NOTHING ahead of BEYOND", x, Edge.NOTHING, () -> x.copy(0, -1, 1, -1, 1));
    Edge.found("NOTHING ahead of BEYOND", x, Edge.NOTHING, () -> x.copy(1, -1, 0, -1, 1));
  }

  // ---- 7

  private static void meanIs(String call, int want, int... values) {
    SmellBurdens x = withRow(0, values);
    Edge.told(call, x, x.mean(0), want);
  }

  @Holds(promise = 7, words = "The mean of a ROW's ints, cut, told by asked(): 1.")
  static void theMeanIsCut() {
    meanIs("2 and a half", 2, 2, 3);
    meanIs("below 0, towards 0", -2, -2, -3);
    meanIs("between 0 and 1", 0, 0, 1);
    meanIs("between -1 and 0", 0, 0, -1);
    meanIs("just 3", 3, 2, 4);
    meanIs("just short of 3", 2, 2, 4, 2);
  }

  @Holds(promise = 7, words = "The mean of a ROW's ints, cut, told by asked(): 1.")
  static void theMeanOfOneOfFortyAndOfTheFarthest() {
    meanIs("forty of the most", Edge.MOST, ints(MOST_INTS, Edge.MOST));
    meanIs("forty of the least", Edge.LEAST, ints(MOST_INTS, Edge.LEAST));
    meanIs("one, the least", Edge.LEAST, Edge.LEAST);
    meanIs("their sum is 2147483646", 715827882, Edge.LEAST, Edge.MOST, Edge.MOST);
  }

  @Holds(promise = 7, words = "BAD;")
  static void theMeanOfNoSuchRowIsBad() {
    SmellBurdens x = withRow(0, 9);
    x.row(5, 1);
    Edge.badOutside("mean(..)", x, 0, 5, x::mean);
    Edge.takenInside("mean(..)", x.mean(0), x.mean(5));
  }

  @Holds(promise = 7, words = "NOTHING;")
  static void theMeanOfAMissingRowIsNothing() {
    SmellBurdens x = withRow(0, 9);
    Edge.found("mean(1)", x, Edge.NOTHING, () -> x.mean(1));
  }

  @Holds(promise = 7, words = "NOUGHT.")
  static void theMeanOfNoneIsNought() {
    SmellBurdens x = withRow(0, 9);
    x.row(0, 0);
    Edge.found("mean(0)", x, Edge.NOUGHT, () -> x.mean(0));
  }

  // ---- 8

  @Holds(promise = 8, words = "A TEXT is there with n blanks: n.")
  static void aTextOfNoneIsThere() {
    SmellBurdens x = new SmellBurdens();
    Edge.is("text(3, 0)", x.text(3, 0), 0);
    Edge.is("count(9)", x.count(9), 1);
    Edge.is("it is there", x.fault(3), 0);
    Edge.found("it has no place", x, Edge.BEYOND, () -> x.put(3, 0, 1));
  }

  @Holds(promise = 8, words = "A TEXT is there with n blanks: n.")
  static void aTextOfSixtyHoldsBlanks() {
    SmellBurdens x = new SmellBurdens();
    Edge.is("text(0, 60)", x.text(0, MOST_BYTES), MOST_BYTES);
    for (int again = 0; again < 2; again++) {
      for (int i = 0; i < MOST_BYTES; i++) {
        Edge.is("put(0, " + i + ", 65)", x.put(0, i, 65), 1032);
      }
      Edge.is("text(0, 60) anew", x.text(0, MOST_BYTES), MOST_BYTES);
    }
    Edge.is("text(0, 1) anew", x.text(0, 1), 1);
    Edge.found("it is smaller", x, Edge.BEYOND, () -> x.put(0, 1, 65));
  }

  @Holds(promise = 8, words = "BAD: also n above 60;")
  static void aTextAbove60IsBad() {
    SmellBurdens x = Due.with(Edge.WALK);
    Edge.still("text(0, 61)", x, Edge.BAD, () -> x.text(0, 61));
    Edge.still("text(0, most)", x, Edge.BAD, () -> x.text(0, Edge.MOST));
  }

  @Holds(promise = 8, words = "BAD: also n above 60;")
  static void noSuchTextIsBad() {
    SmellBurdens x = new SmellBurdens();
    Edge.badOutside("text(.., 1)", x, 0, 3, t -> x.text(t, 1));
    Edge.takenInside("text(.., 1)", x.text(0, 1), x.text(3, 1));
  }

  @Holds(promise = 8, words = "SIZE: below 0.")
  static void aTextBelow0IsSize() {
    SmellBurdens x = Due.with(Edge.WALK);
    Edge.found("text(0, -1)", x, Edge.SIZE, () -> x.text(0, -1));
    Edge.found("text(1, least)", x, Edge.SIZE, () -> x.text(1, Edge.LEAST));
  }

  // ---- 9

  @Holds(promise = 9, words = "Byte i of a TEXT is v, cut to a byte (-128 .. 127): what it was, and 1000 more.")
  static void aByteIsCut() {
    SmellBurdens x = new SmellBurdens();
    x.text(3, MOST_BYTES);
    int[] put = {127, 128, 255, 256, -1, -128, -129, -256, 65536 + 7, Edge.MOST, Edge.LEAST, 0, 1};
    int[] cut = {127, -128, -1, 0, -1, -128, 127, 0, 7, -1, 0, 0, 1};
    int was = 32;
    for (int n = 0; n < put.length; n++) {
      Edge.is("put(3, 59, " + put[n] + ")", x.put(3, 59, put[n]), 1000 + was);
      was = cut[n];
    }
    Edge.is("the byte beside it", x.put(3, 58, 1), 1032);
    Edge.is("the first byte", x.put(3, 0, 1), 1032);
    Edge.is("asked() tells none of it", x.asked(), 0);
  }

  @Holds(promise = 9, words = "BAD;")
  static void aByteOfNoSuchTextIsBad() {
    SmellBurdens x = Due.with(Edge.WALK);
    x.text(3, 1);
    Edge.badOutside("put(.., 0, 110)", x, 0, 3, t -> x.put(t, 0, 110));
    Edge.takenInside("put(.., 0, 110)", x.put(0, 0, 110), x.put(3, 0, 110));
  }

  @Holds(promise = 9, words = "NOTHING;")
  static void aByteOfAMissingTextIsNothing() {
    SmellBurdens x = Due.with(Edge.WALK);
    Edge.found("put(1, 0, 1)", x, Edge.NOTHING, () -> x.put(1, 0, 1));
    Edge.found("ahead of BEYOND", x, Edge.NOTHING, () -> x.put(1, -1, 1));
  }

  @Holds(promise = 9, words = "BEYOND.")
  static void aByteBeyondIsBeyond() {
    SmellBurdens x = Due.with(Edge.WALK);
    int[] places = {-1, Edge.WALK.length(), Edge.LEAST, Edge.MOST};
    for (int i : places) {
      Edge.found("put(0, " + i + ", 1)", x, Edge.BEYOND, () -> x.put(0, i, 1));
    }
    x.text(1, MOST_BYTES);
    Edge.found("put(1, 60, 1)", x, Edge.BEYOND, () -> x.put(1, MOST_BYTES, 1));
    Edge.found("put(1, -1, 1)", x, Edge.BEYOND, () -> x.put(1, -1, 1));
  }
}
