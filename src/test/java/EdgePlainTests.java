/** Promises 11 to 14, sentence by sentence, and the Terms' sentences on KINDS: what stands on a PLAIN. */
final class EdgePlainTests {
  private static final String LETTERS = "agysom";

  public static void main(String[] args) throws Exception {
    Edge.run(EdgePlainTests.class);
  }

  private static String two(int n) {
    return n < 10 ? "0" + n : "" + n;
  }

  private static SmellBurdens one(int kind, int memory, String loads) {
    return Due.with("n00000" + LETTERS.charAt(kind) + two(memory) + "0" + loads);
  }

  // ---- 11

  @Holds(promise = 11, words = "A PLAIN by a TEXT")
  static void aPlainByEachTextTellsOneToFiveLoads() {
    SmellBurdens x = new SmellBurdens();
    String all = "n00000a000" + "l0001".repeat(5);
    for (int loads = 1; loads <= 5; loads++) {
      Due.write(x, loads % 4, all.substring(0, 10 + 5 * loads));
      Edge.is("plain() of " + loads, x.plain(loads % 4), loads);
      Edge.is("count(1)", x.count(1), loads);
    }
  }

  @Holds(promise = 11, words = "how many LOADS.")
  static void aSmallerPlainForgetsTheGreaterOne() {
    SmellBurdens x = Due.with("n43210m154m154m154m154l1544l1544l1544l1544l1544");
    Due.write(x, 1, "n00000a000l0001");
    Edge.is("plain(1)", x.plain(1), 1);
    Edge.is("ROADS", x.count(5), 0);
    Edge.told("KIND", x, x.ass(0, 0), 0);
    Edge.told("MEMORY", x, x.ass(0, 1), 0);
    Edge.told("INN", x, x.ass(0, 2), 0);
    Edge.told("MARKS", x, x.load(0, 0), 0);
    Edge.told("INN of the LOAD", x, x.load(0, 1), 0);
    Edge.told("HOME", x, x.load(0, 2), 1);
    Edge.still("ASS 1", x, Edge.BAD, () -> x.ass(1, 0));
    Edge.still("LOAD 1", x, Edge.BAD, () -> x.load(1, 0));
    Edge.is("who(0)", x.who(0), 1);
  }

  @Holds(promise = 11, words = "(anew: DAY 0, no DEEDS; kept PLAINS go):")
  static void aPlainAnewHasNoDeedsAndNoneKept() {
    SmellBurdens x = Edge.full(Edge.WALK);
    for (int k = 0; k < 3; k++) {
      x.keep(k);
    }
    Edge.is("the same TEXT", x.plain(0), 1);
    Edge.is("DAY", x.count(2), 0);
    Edge.is("DEEDS", x.count(3), 0);
    Edge.is("kept", x.count(10), 0);
    Edge.is("none to be undone", x.undo(0), 0);
    Edge.still("no first DEED", x, Edge.BAD, () -> x.undo(1));
    for (int k = 0; k < 3; k++) {
      int place = k;
      Edge.found("on(" + k + ")", x, Edge.NOTHING, () -> x.on(place));
    }
    Edge.told("the LOAD is where it was", x, x.load(0, 1), 0);
    Edge.is("there is room for DEEDS", x.day(), 1);
  }

  @Holds(promise = 11, words = "(anew: DAY 0, no DEEDS; kept PLAINS go):")
  static void rowsAndTextsStay() {
    SmellBurdens x = Due.with(Edge.WALK);
    Due.fill(x, 0, 5, 6);
    Due.write(x, 1, "n00000a000l0001");
    x.plain(1);
    Edge.is("ROWS", x.count(8), 1);
    Edge.is("TEXTS", x.count(9), 2);
    Edge.rowIs("the ROW", x, 0, 5, 6);
    Edge.is("back by the other TEXT", x.plain(0), 1);
    Edge.is("its ROADS", x.count(5), 12340);
  }

  @Holds(promise = 11, words = "BAD;")
  static void aPlainByNoSuchTextIsBad() {
    SmellBurdens x = Due.with(Edge.WALK);
    Due.write(x, 3, Edge.WALK);
    Edge.badOutside("plain(..)", x, 0, 3, x::plain);
    Edge.takenInside("plain(..)", x.plain(0), x.plain(3));
  }

  @Holds(promise = 11, words = "NOTHING;")
  static void aPlainByAMissingTextIsNothing() {
    SmellBurdens x = Edge.rich();
    Edge.found("plain(1)", x, Edge.NOTHING, () -> x.plain(1));
    Edge.found("plain(3)", x, Edge.NOTHING, () -> x.plain(3));
    Edge.asUntouched("NOTHING", x, Edge::rich);
  }

  @Holds(promise = 11, words = "STATE: a FAULT.")
  static void aFaultIsState() {
    SmellBurdens x = Edge.rich();
    String[] faults = {"", " ", "n", "n01234", "n01234a154", "n01234a154l154", "n01234a154l1544a"};
    for (String signs : faults) {
      Due.write(x, 3, signs);
      Edge.still("plain of '" + signs + "'", x, Edge.STATE, () -> x.plain(3));
    }
    Edge.asUntouched("STATE", x, () -> richWith("n01234a154l1544a"));
  }

  private static SmellBurdens richWith(String signs) {
    SmellBurdens x = Edge.rich();
    Due.write(x, 3, signs);
    return x;
  }

  @Holds(promise = 11, words = "(STATE behind NOTHING.)")
  static void aMissingTextIsNoFault() {
    SmellBurdens x = Due.with("n01234");
    Edge.still("there, with a FAULT", x, Edge.STATE, () -> x.plain(0));
    Edge.found("missing", x, Edge.NOTHING, () -> x.plain(1));
  }

  // ---- KINDS

  @Holds(promise = 0, words = {"KINDS of ASSES and letters: 0 ASS (a, 97)", "1 GREY (g, 103; an ASS)",
    "2 YOUNG (y, 121; an ASS)", "3 STUBBORN (s, 115; an ASS)", "4 OLD (o, 111; a GREY)",
    "5 MULE (m, 109; a STUBBORN)."})
  static void aKindIsAlsoWhatStandsAboveIt() {
    int[] signs = {97, 103, 121, 115, 111, 109};
    boolean[][] is = {
      {false, false, false, false, false},
      {true, false, false, false, false},
      {false, true, false, false, false},
      {false, false, true, false, false},
      {true, false, false, true, false},
      {false, false, true, false, true}};
    for (int kind = 0; kind < 6; kind++) {
      SmellBurdens x = new SmellBurdens();
      Due.write(x, 0, "n00000x150l1501");
      x.put(0, 6, signs[kind]);
      x.plain(0);
      Edge.told("letter " + signs[kind], x, x.ass(0, 0), kind);
      for (int as = 1; as <= 5; as++) {
        int asKind = as;
        if (is[kind][as - 1]) {
          Edge.is("KIND " + kind + " is a " + as, x.mark(0, as) >= 0 ? 1 : 0, 1);
        } else {
          Edge.found("KIND " + kind + " is no " + as, x, Edge.UNLIKE, () -> x.mark(0, asKind));
        }
      }
    }
  }

  // ---- 12

  @Holds(promise = 12, words = {"Of an ASS: 0 the KIND, 1 the MEMORY, 2 the INN", "told by asked(): 1."})
  static void ofTheFirstAndTheLastAss() {
    SmellBurdens x = Due.with("n00000a000g010y020m154l0011");
    Edge.told("KIND 0", x, x.ass(0, 0), 0);
    Edge.told("no MEMORY", x, x.ass(0, 1), 0);
    Edge.told("INN 0", x, x.ass(0, 2), 0);
    Edge.told("KIND 5", x, x.ass(3, 0), 5);
    Edge.told("all MARKS", x, x.ass(3, 1), 15);
    Edge.told("INN 4", x, x.ass(3, 2), 4);
  }

  @Holds(promise = 12, words = "3 the LOAD that it would TAKE today (NONE: none)")
  static void theLoadThatItWouldTakeOrNone() {
    SmellBurdens x = Due.with("n00000m150m150m150m151l0001l0001l0001l1501l1502");
    Edge.told("LOAD 3", x, x.ass(0, 3), 3);
    Edge.told("LOAD 4", x, x.ass(1, 3), 4);
    Edge.told("what is left is REFUSED", x, x.ass(2, 3), Edge.NONE);
    Edge.told("nothing is there", x, x.ass(3, 3), Edge.NONE);
    SmellBurdens y = Due.with("n00000a150l1501");
    Edge.told("LOAD 0", y, y.ass(0, 3), 0);
    SmellBurdens z = Due.with("n00000a150l1500");
    Edge.told("at its HOME", z, z.ass(0, 3), Edge.NONE);
  }

  @Holds(promise = 12, words = "BAD.")
  static void noSuchAssAndNoSuchWhatIsBad() {
    SmellBurdens one = Due.with(Edge.WALK);
    Edge.badOutside("ass(.., 0)", one, 0, 0, i -> one.ass(i, 0));
    Edge.badOutside("ass(0, ..)", one, 0, 3, what -> one.ass(0, what));
    SmellBurdens four = Due.with("n00000a000a000a000a000l0001");
    Edge.badOutside("ass(.., 3)", four, 0, 3, i -> four.ass(i, 3));
    Edge.takenInside("ass(.., 3)", four.ass(0, 3), four.ass(3, 3));
    Edge.takenInside("ass(0, ..)", four.ass(0, 0), four.ass(0, 3));
  }

  // ---- 13

  @Holds(promise = 13, words = {"Of a LOAD: 0 the MARKS, 1 the INN, 2 the HOME", "told by asked(): 1."})
  static void ofTheFirstAndTheLastLoad() {
    SmellBurdens x = Due.with("n00000a000l0004l0001l0001l0001l1540");
    Edge.told("no MARKS", x, x.load(0, 0), 0);
    Edge.told("INN 0", x, x.load(0, 1), 0);
    Edge.told("HOME 4", x, x.load(0, 2), 4);
    Edge.told("all MARKS", x, x.load(4, 0), 15);
    Edge.told("INN 4", x, x.load(4, 1), 4);
    Edge.told("HOME 0", x, x.load(4, 2), 0);
  }

  @Holds(promise = 13, words = "3 whether it is at its HOME (1, 0)")
  static void whetherItIsAtItsHome() {
    SmellBurdens x = Due.with("n12340m150l1501l0044l0040");
    Edge.told("not yet", x, x.load(0, 3), 0);
    Edge.told("from the first on", x, x.load(1, 3), 1);
    Edge.told("not at HOME, INN 4", x, x.load(2, 3), 0);
    x.day();
    Edge.told("behind a DAY", x, x.load(0, 3), 1);
    x.undo(0);
    Edge.told("no more", x, x.load(0, 3), 0);
  }

  @Holds(promise = 13, words = "4 the ASS who would TAKE it today (NONE: nobody)")
  static void theAssWhoWouldTakeItOrNobody() {
    SmellBurdens x = Due.with("n00000m000m000m000m150l1501l0001l1001l0000l0012");
    Edge.told("the last ASS", x, x.load(0, 4), 3);
    Edge.told("the first ASS", x, x.load(1, 4), 0);
    Edge.told("all REFUSE it", x, x.load(2, 4), Edge.NONE);
    Edge.told("at its HOME", x, x.load(3, 4), Edge.NONE);
    Edge.told("nobody is there", x, x.load(4, 4), Edge.NONE);
  }

  @Holds(promise = 13, words = "BAD.")
  static void noSuchLoadAndNoSuchWhatIsBad() {
    SmellBurdens one = Due.with(Edge.WALK);
    Edge.badOutside("load(.., 0)", one, 0, 0, l -> one.load(l, 0));
    Edge.badOutside("load(0, ..)", one, 0, 4, what -> one.load(0, what));
    SmellBurdens five = Due.with("n00000a000" + "l0001".repeat(5));
    Edge.badOutside("load(.., 4)", five, 0, 4, l -> five.load(l, 4));
    Edge.takenInside("load(.., 4)", five.load(0, 4), five.load(4, 4));
    Edge.takenInside("load(0, ..)", five.load(0, 0), five.load(0, 4));
  }

  // ---- 14

  @Holds(promise = 14, words = "What an ASS that IS of a KIND tells: a GREY (OLD, too) how many MARKS it remembers")
  static void aGreyTellsNoneToFourMarks() {
    int[] memories = {0, 1, 8, 9, 7, 15};
    int[] marks = {0, 1, 1, 2, 3, 4};
    for (int n = 0; n < memories.length; n++) {
      Edge.is("GREY " + memories[n], one(1, memories[n], "l0001").mark(0, 1), marks[n]);
      Edge.is("OLD " + memories[n], one(4, memories[n], "l0001").mark(0, 1), marks[n]);
    }
  }

  @Holds(promise = 14, words = "a YOUNG one to how many LOADS its MEMORY is just like")
  static void aYoungOneTellsNoneToFiveLoads() {
    Edge.is("none", one(2, 5, "l0401l0701l1301l1501l1001").mark(0, 2), 0);
    Edge.is("all, wherever", one(2, 5, "l0501l0511l0522l0533l0544").mark(0, 2), 5);
    Edge.is("the last", one(2, 0, "l0101l0201l0401l0801l0000").mark(0, 2), 1);
    SmellBurdens x = one(2, 5, "l0701l0501");
    x.smear(1, 1);
    Edge.is("MARKS as they are now", x.mark(0, 2), 0);
    x.day();
    Edge.is("a MEMORY as it is now", x.mark(0, 2), 2);
  }

  @Holds(promise = 14, words = "a STUBBORN one (MULE, too) how many LOADS (wherever they are) it REFUSES")
  static void aStubbornOneTellsNoneToFiveLoads() {
    Edge.is("STUBBORN: LIKE by 3, 4", one(3, 15, "l1501l0711l1422l1333l1144").mark(0, 3), 0);
    Edge.is("STUBBORN: LIKE by 2, 1, 0", one(3, 15, "l0301l0911l0122l0833l0044").mark(0, 3), 5);
    Edge.is("MULE: LIKE by 4", one(5, 15, "l1501l1511l1522l1533l1544").mark(0, 3), 0);
    Edge.is("MULE: LIKE by 3", one(5, 15, "l0701l1411l1322l1133l0744").mark(0, 3), 5);
    Edge.is("the last alone", one(3, 15, "l1501l1501l1501l1501l0000").mark(0, 3), 1);
  }

  @Holds(promise = 14, words = "an OLD one by how much the most LIKE LOAD (wherever it is) is LIKE to it")
  static void anOldOneTells0To8() {
    Edge.is("none is LIKE", one(4, 0, "l1501l1501").mark(0, 4), 0);
    Edge.is("LIKE by 2", one(4, 1, "l0001l0122").mark(0, 4), 2);
    Edge.is("LIKE by 8, the last", one(4, 15, "l0001l0101l0301l0701l1544").mark(0, 4), 8);
    Edge.is("LIKE by 8, at its HOME", one(4, 15, "l1500l0001").mark(0, 4), 8);
  }

  @Holds(promise = 14, words = "a MULE by how much a LOAD must be LIKE to it at least.")
  static void aMuleTells4() {
    SmellBurdens x = one(5, 9, "l0901");
    Edge.is("mark(0, 5)", x.mark(0, 5), 4);
    Edge.is("LIKE by 4 is not REFUSED", x.who(9), 1);
    Edge.is("LIKE by 3 is", x.who(8), 0);
  }

  @Holds(promise = 14, words = "BAD: also KIND 0;")
  static void kind0AndNoSuchKindIsBad() {
    for (int kind = 0; kind < 6; kind++) {
      SmellBurdens x = one(kind, 15, "l1501");
      Edge.badOutside("mark(0, ..) of " + kind, x, 1, 5, as -> x.mark(0, as));
    }
  }

  @Holds(promise = 14, words = "BAD: also KIND 0;")
  static void aMarkOfNoSuchAssIsBad() {
    SmellBurdens x = Due.with("n00000g000g000g000g000l0001");
    Edge.badOutside("mark(.., 1)", x, 0, 3, i -> x.mark(i, 1));
    Edge.takenInside("mark(.., 1)", x.mark(0, 1), x.mark(3, 1));
    SmellBurdens y = one(1, 0, "l0001");
    Edge.badOutside("mark(.., 1)", y, 0, 0, i -> y.mark(i, 1));
  }

  @Holds(promise = 14, words = "UNLIKE.")
  static void anAssOfAnotherKindIsUnlike() {
    SmellBurdens x = Due.with("n00000a000y000s000o000l0001");
    Edge.found("an ASS is no GREY", x, Edge.UNLIKE, () -> x.mark(0, 1));
    Edge.found("a YOUNG one is no MULE", x, Edge.UNLIKE, () -> x.mark(1, 5));
    Edge.found("a STUBBORN one is no MULE", x, Edge.UNLIKE, () -> x.mark(2, 5));
    Edge.found("an OLD one is no YOUNG one", x, Edge.UNLIKE, () -> x.mark(3, 2));
    Edge.found("an ASS is no OLD one", x, Edge.UNLIKE, () -> x.mark(0, 4));
  }
}
