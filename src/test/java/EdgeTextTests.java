/** Promise 10, and the sentences of the Terms on a PLAIN as a TEXT: each place where it can't go on. */
final class EdgeTextTests {
  private static final String ROADS = "n01234", ASS = "a000", LOAD = "l0000";
  private static final String LETTERS = "agysom";

  public static void main(String[] args) throws Exception {
    Edge.run(EdgeTextTests.class);
  }

  private static void faultIs(String signs, int want) {
    SmellBurdens x = new SmellBurdens();
    Due.write(x, 3, signs);
    Edge.is("fault of '" + signs + "'", x.fault(3), want);
    int loads = signs.length() - signs.replace("l", "").length();
    Edge.is("plain of '" + signs + "'", x.plain(3), want == Edge.NONE ? loads : Edge.STATE);
  }

  private static void faultOfByteIs(String ahead, int sign, String behind, int want) {
    SmellBurdens x = new SmellBurdens();
    Due.write(x, 0, ahead + " " + behind);
    x.put(0, ahead.length(), sign);
    Edge.is("fault of byte " + sign + " behind '" + ahead + "'", x.fault(0), want);
  }

  private static String two(int n) {
    return n < 10 ? "0" + n : "" + n;
  }

  // ---- 10

  @Holds(promise = 10, words = "A FAULT of a TEXT; NONE: there is none.")
  static void aFaultAtTheFirstPlaceAtTheSizeAndNone() {
    faultIs("x" + ROADS, 0);
    faultIs(ROADS, ROADS.length());
    faultIs(ROADS + ASS + LOAD, Edge.NONE);
  }

  @Holds(promise = 10, words = "A FAULT of a TEXT; NONE: there is none.")
  static void aFaultIsAskedAside() {
    SmellBurdens x = Due.with(Edge.WALK);
    Due.write(x, 1, "n43210o091l1234");
    Edge.still("fault(1), a PLAIN", x, Edge.NONE, () -> x.fault(1));
    Due.write(x, 1, "n43210o09");
    Edge.still("fault(1), none", x, 9, () -> x.fault(1));
  }

  @Holds(promise = 10, words = "BAD;")
  static void aFaultOfNoSuchTextIsBad() {
    SmellBurdens x = Due.with(Edge.WALK);
    x.text(3, 1);
    Edge.badOutside("fault(..)", x, 0, 3, x::fault);
    Edge.takenInside("fault(..)", x.fault(0), x.fault(3));
  }

  @Holds(promise = 10, words = "NOTHING.")
  static void aFaultOfAMissingTextIsNothing() {
    SmellBurdens x = Due.with(Edge.WALK);
    Edge.found("fault(1)", x, Edge.NOTHING, () -> x.fault(1));
    Edge.found("fault(3)", x, Edge.NOTHING, () -> x.fault(3));
  }

  // ---- blanks

  @Holds(promise = 0, words = "A PLAIN (without ASSES, LOADS at first) is a TEXT: blanks (32) ahead, between, behind as many as wanted")
  static void blanksAheadBetweenBehindAsManyAsWanted() {
    faultIs("n01234a000l0000", Edge.NONE);
    faultIs(" n01234 a000 l0000 ", Edge.NONE);
    String many = " ".repeat(45);
    faultIs(many + "n01234a000l0000", Edge.NONE);
    faultIs("n01234" + many + "a000l0000", Edge.NONE);
    faultIs("n01234a000" + many + "l0000", Edge.NONE);
    faultIs("n01234a000l0000" + many, Edge.NONE);
    String some = " ".repeat(11);
    faultIs(some + "n01234" + some + "a000" + some + "l0000" + some, Edge.NONE);
    faultIs("n01234   a000  g000   l0000  l0000", Edge.NONE);
  }

  @Holds(promise = 0, words = "blanks (32) ahead, between, behind as many as wanted")
  static void onlyByte32IsABlank() {
    int[] none = {9, 10, 13, 31, 33, 0, -96, -128};
    for (int sign : none) {
      faultOfByteIs("", sign, ROADS + ASS + LOAD, 0);
      faultOfByteIs(ROADS, sign, ASS + LOAD, 6);
      faultOfByteIs(ROADS + ASS, sign, LOAD, 10);
      faultOfByteIs(ROADS + ASS + LOAD, sign, "", 15);
    }
  }

  @Holds(promise = 0, words = "none within items (an item: a letter and all its figures).")
  static void blanksWithinAnItemAreAFault() {
    String[] items = {ROADS, ASS, LOAD};
    int from = 0;
    for (String item : items) {
      for (int in = 1; in < item.length(); in++) {
        String all = ROADS + ASS + LOAD;
        faultIs(all.substring(0, from + in) + " " + all.substring(from + in), from + in);
      }
      from += item.length();
    }
  }

  // ---- ROADS

  @Holds(promise = 0, words = "First n (110)")
  static void firstComesN() {
    for (int sign = -128; sign <= 127; sign++) {
      if (sign == 32) {
        faultOfByteIs("", sign, "01234" + ASS + LOAD, 1);
      } else {
        faultOfByteIs("", sign, "01234" + ASS + LOAD, sign == 110 ? Edge.NONE : 0);
      }
    }
    faultIs("  a000l0000", 2);
    faultIs(ROADS + ROADS + ASS + LOAD, 6);
  }

  @Holds(promise = 0, words = "to which INN the ROAD goes from INN 0, 1, .. 4 (0 .. 4, five figures; perhaps to itself).")
  static void fiveRoadsFrom0To4() {
    for (int inn = 0; inn < 5; inn++) {
      for (int sign = 32; sign <= 127; sign++) {
        String behind = "0000".substring(inn) + ASS + LOAD;
        boolean road = sign >= '0' && sign <= '4';
        faultOfByteIs("n0000".substring(0, 1 + inn), sign, behind, road ? Edge.NONE : 1 + inn);
      }
    }
    faultIs("n0123" + ASS + LOAD, 5);
    faultIs("n012344" + ASS + LOAD, 6);
    faultIs("n" + ASS + LOAD, 1);
  }

  @Holds(promise = 0, words = "(0 .. 4, five figures; perhaps to itself).")
  static void aRoadMayGoToItself() {
    for (int inn = 0; inn < 5; inn++) {
      SmellBurdens x = Due.with("n01234m15" + inn + "l15" + inn + (inn + 1) % 5);
      Edge.is("taken at INN " + inn, x.day(), 1);
      Edge.told("the ASS is there again", x, x.ass(0, 2), inn);
      Edge.told("the LOAD is there again", x, x.load(0, 1), inn);
    }
  }

  // ---- ASSES

  @Holds(promise = 0, words = "Then ASSES (1 to 4; 0, 1, .. as they come): a letter")
  static void oneToFourAsses() {
    faultIs(ROADS + LOAD, 6);
    faultIs(ROADS + ASS + LOAD, Edge.NONE);
    faultIs(ROADS + ASS.repeat(4) + LOAD, Edge.NONE);
    faultIs(ROADS + ASS.repeat(5) + LOAD, 22);
    SmellBurdens x = Due.with(ROADS + "a010g021y032s043" + LOAD);
    for (int i = 0; i < 4; i++) {
      Edge.told("KIND of ASS " + i, x, x.ass(i, 0), i);
      Edge.told("MEMORY of ASS " + i, x, x.ass(i, 1), i + 1);
      Edge.told("INN of ASS " + i, x, x.ass(i, 2), i);
    }
  }

  @Holds(promise = 0, words = "Then ASSES (1 to 4; 0, 1, .. as they come): a letter")
  static void onlySixLettersAreAsses() {
    for (int sign = -128; sign <= 127; sign++) {
      int want = sign == 32 ? 7 : sign > 0 && LETTERS.indexOf(sign) >= 0 ? Edge.NONE : 6;
      faultOfByteIs(ROADS, sign, "000" + LOAD, want);
    }
  }

  @Holds(promise = 0, words = "the MEMORY (two figures, 00 .. 15: a set of MARKS)")
  static void aMemoryFrom00To15() {
    for (int set = 0; set < 100; set++) {
      faultIs(ROADS + "a" + two(set) + "0" + LOAD, set <= 15 ? Edge.NONE : 7);
    }
    faultIs(ROADS + "a50" + LOAD, 7);
    faultIs(ROADS + "a0500" + LOAD, 10);
  }

  @Holds(promise = 0, words = "the INN (0 .. 4, one figure).")
  static void anInnOfAnAssFrom0To4() {
    for (int sign = 32; sign <= 127; sign++) {
      faultOfByteIs(ROADS + "a00", sign, LOAD, sign >= '0' && sign <= '4' ? Edge.NONE : 9);
    }
    faultIs(ROADS + "a00" + LOAD, 9);
  }

  // ---- LOADS

  @Holds(promise = 0, words = "Then LOADS (1 to 5; 0, 1, .. as they come): l (108)")
  static void oneToFiveLoads() {
    faultIs(ROADS + ASS, 10);
    faultIs(ROADS + ASS + LOAD, Edge.NONE);
    faultIs(ROADS + ASS + LOAD.repeat(5), Edge.NONE);
    faultIs(ROADS + ASS + LOAD.repeat(6), 35);
    faultIs(ROADS + ASS.repeat(4) + LOAD.repeat(5), Edge.NONE);
    SmellBurdens x = Due.with(ROADS + ASS + "l0104l0213l0322l0431l0540");
    for (int l = 0; l < 5; l++) {
      Edge.told("MARKS of LOAD " + l, x, x.load(l, 0), l + 1);
      Edge.told("INN of LOAD " + l, x, x.load(l, 1), l);
      Edge.told("HOME of LOAD " + l, x, x.load(l, 2), 4 - l);
    }
  }

  @Holds(promise = 0, words = "Then LOADS (1 to 5; 0, 1, .. as they come): l (108)")
  static void onlyLIsALoad() {
    for (int sign = -128; sign <= 127; sign++) {
      int want = sign == 32 ? 16 : sign == 108 ? Edge.NONE : 15;
      faultOfByteIs(ROADS + ASS + LOAD, sign, "0000", want);
    }
  }

  @Holds(promise = 0, words = "the MARKS (two figures, 00 .. 15)")
  static void marksFrom00To15() {
    for (int set = 0; set < 100; set++) {
      faultIs(ROADS + ASS + "l" + two(set) + "00", set <= 15 ? Edge.NONE : 11);
    }
  }

  @Holds(promise = 0, words = "the INN where it is, its HOME (0 .. 4, one figure each).")
  static void anInnAndAHomeOfALoadFrom0To4() {
    for (int sign = 32; sign <= 127; sign++) {
      boolean inn = sign >= '0' && sign <= '4';
      faultOfByteIs(ROADS + ASS + "l00", sign, "0", inn ? Edge.NONE : 13);
      faultOfByteIs(ROADS + ASS + "l000", sign, "", inn ? Edge.NONE : 14);
    }
    faultIs(ROADS + ASS + "l000" + LOAD, 14);
    faultIs(ROADS + ASS + "l00000", 15);
  }

  // ---- FAULTS

  @Holds(promise = 0, words = "A FAULT is the first place at which it can't go on so")
  static void theFirstOfTwoPlacesCounts() {
    faultIs("n51239" + ASS + LOAD, 1);
    faultIs(ROADS + "a165" + LOAD, 7);
    faultIs(ROADS + "a005b", 9);
    faultIs(ROADS + ASS + "l1655", 11);
    faultIs(ROADS + ASS + "l1555", 13);
    faultIs(ROADS + "a", 7);
    faultIs("x   ", 0);
  }

  @Holds(promise = 0, words = "(a letter, a figure that is none such, a LOAD ahead of all ASSES, an ASS behind a LOAD, a fifth ASS, a sixth LOAD: its place;")
  static void aLetterThatIsNoneSuch() {
    faultIs("N01234" + ASS + LOAD, 0);
    faultIs(ROADS + "A000" + LOAD, 6);
    faultIs(ROADS + ASS + "L0000", 10);
    faultIs(ROADS + ASS + LOAD + "n01234", 15);
    faultIs(ROADS + ASS + LOAD + "0", 15);
    faultIs(ROADS + ASS + LOAD + "  x", 17);
  }

  @Holds(promise = 0, words = "a figure that is none such")
  static void aFigureThatIsNoneSuch() {
    String all = ROADS + ASS + LOAD;
    String letters = "naysl";
    for (int p = 0; p < all.length(); p++) {
      if (all.charAt(p) >= '0' && all.charAt(p) <= '9') {
        for (int n = 0; n < letters.length(); n++) {
          faultIs(all.substring(0, p) + letters.charAt(n) + all.substring(p + 1), p);
        }
        faultIs(all.substring(0, p) + "/" + all.substring(p + 1), p);
        faultIs(all.substring(0, p) + ":" + all.substring(p + 1), p);
        faultIs(all.substring(0, p) + ":x", p);
        faultIs(all.substring(0, p) + ":", p);
        faultIs(all.substring(0, p) + "/", p);
      }
    }
  }

  @Holds(promise = 0, words = "a LOAD ahead of all ASSES")
  static void aLoadAheadOfAllAsses() {
    faultIs(ROADS + LOAD + ASS, 6);
    faultIs(ROADS + "  l", 8);
    faultIs("l0000", 0);
  }

  @Holds(promise = 0, words = "an ASS behind a LOAD")
  static void anAssBehindALoad() {
    for (int n = 0; n < LETTERS.length(); n++) {
      faultIs(ROADS + ASS + LOAD + LETTERS.charAt(n) + "000", 15);
    }
    faultIs(ROADS + ASS + LOAD + " " + ASS + LOAD, 16);
    faultIs(ROADS + ASS + LOAD.repeat(5) + ASS, 35);
  }

  @Holds(promise = 0, words = "a fifth ASS")
  static void aFifthAss() {
    for (int n = 0; n < LETTERS.length(); n++) {
      faultIs(ROADS + ASS.repeat(4) + LETTERS.charAt(n), 22);
    }
    faultIs(ROADS + ASS.repeat(4) + " m000" + LOAD, 23);
  }

  @Holds(promise = 0, words = "a sixth LOAD: its place;")
  static void aSixthLoad() {
    faultIs(ROADS + ASS + LOAD.repeat(5) + "l", 35);
    faultIs(ROADS + ASS + LOAD.repeat(5) + " " + LOAD, 36);
    faultIs(ROADS + ASS.repeat(4) + LOAD.repeat(5) + "l", 47);
  }

  @Holds(promise = 0, words = "two figures above 15: the place of the first of both;")
  static void twoFiguresAbove15() {
    faultIs(ROADS + "a16", 7);
    faultIs(ROADS + "a160" + LOAD, 7);
    faultIs(ROADS + "a200" + LOAD, 7);
    faultIs(ROADS + "a99", 7);
    faultIs(ROADS + ASS + "g160" + LOAD, 11);
    faultIs(ROADS + ASS + "l16", 11);
    faultIs(ROADS + ASS + "l1600", 11);
    faultIs(ROADS + ASS + LOAD + " l2500", 17);
    faultIs(ROADS + "a150" + "l1500", Edge.NONE);
  }

  // one figure alone is no two figures: where the second should be, it can't go on
  @Holds(promise = 0, words = "two figures above 15: the place of the first of both;")
  static void oneFigureOfASetAlone() {
    faultIs(ROADS + "a2", 8);
    faultIs(ROADS + "a2 ", 8);
    faultIs(ROADS + "a9x", 8);
    faultIs(ROADS + ASS + "l2", 12);
    faultIs(ROADS + ASS + "l9l", 12);
  }

  @Holds(promise = 0, words = "the TEXT's size, if its end comes too early")
  static void anEndThatComesTooEarly() {
    String all = "n01234a000 m154l0000 l1500l1544";
    for (int size = 0; size <= all.length(); size++) {
      boolean ended = size == 20 || size == 21 || size == 26 || size == 31;
      faultIs(all.substring(0, size), ended ? Edge.NONE : size);
    }
  }

  @Holds(promise = 0, words = "the TEXT's size, if its end comes too early")
  static void blanksAheadOfAnEndThatComesTooEarly() {
    faultIs(ROADS + "   ", 9);
    faultIs(ROADS + ASS + "   ", 13);
    faultIs(ROADS + " ".repeat(54), 60);
    faultIs(ROADS + ASS + "l000 ", 14);
  }

  @Holds(promise = 0, words = "or there are blanks alone).")
  static void blanksAlone() {
    faultIs("", 0);
    faultIs(" ", 1);
    faultIs(" ".repeat(60), 60);
  }

  @Holds(promise = 0, words = "or there are blanks alone).")
  static void aFullTextOfSixtySigns() {
    String all = ROADS + ASS.repeat(4) + LOAD.repeat(5);
    faultIs(" ".repeat(60 - all.length()) + all, Edge.NONE);
    faultIs(all + " ".repeat(60 - all.length()), Edge.NONE);
    faultIs(all + " ".repeat(59 - all.length()) + "l", 59);
    faultIs(all + " ".repeat(59 - all.length()) + "x", 59);
    faultIs(" ".repeat(59) + "n", 60);
    faultIs(" ".repeat(59) + "x", 59);
  }
}
