import java.math.BigInteger;
import java.util.ArrayList;
import java.util.List;

/** Promises 37 to 43, sentence by sentence: what is told. */
final class EdgeToldTests {
  public static void main(String[] args) throws Exception {
    Edge.run(EdgeToldTests.class);
  }

  // ---- 37

  @Holds(promise = 37, words = "What the latest lay(), at(), mean(), ass(), load(), round(), marks(), cover(), next()")
  static void eachOfNineCallsTells() {
    SmellBurdens x = Due.with("n12340m054g130l0504l0701");
    x.row(0, 2);
    x.lay(0, 0, 7);
    Edge.told("lay()", x, x.lay(0, 0, 9), 7);
    Edge.told("at()", x, x.at(0, 0), 9);
    Edge.told("mean()", x, x.mean(0), 4);
    Edge.told("ass()", x, x.ass(1, 1), 13);
    Edge.told("load()", x, x.load(1, 0), 7);
    Edge.is("marks(): more LIKE than LOAD 0", x.marks(1, 1), 1);
    Edge.is("marks() told", x.asked(), 15);
    Edge.is("cover()", x.cover(), 1);
    Edge.is("cover() told", x.asked(), 2);
    x.row(0, 0);
    Edge.is("next()", x.next(0, 0), 0);
    Edge.is("next() told", x.asked(), 15);
    Edge.is("round()", x.round() >= 1 ? 1 : 0, 1);
    Edge.is("round() told", x.asked(), 1);
  }

  @Holds(promise = 37, words = "that was not refused (nor NONE) told;")
  static void whatIsRefusedTellsNothing() {
    SmellBurdens x = Due.with(Edge.WALK);
    Due.fill(x, 0, 77);
    x.row(1, 0);
    x.at(0, 0);
    int[] answers = {x.lay(6, 0, 1), x.lay(2, 0, 1), x.lay(0, 1, 1), x.at(6, 0), x.at(2, 0), x.at(0, 1),
      x.mean(6), x.mean(2), x.mean(1), x.ass(1, 0), x.ass(0, 4), x.load(1, 0), x.load(0, 5),
      x.marks(1, 0), x.marks(0, 21), x.next(1, 1), x.next(0, 2), x.next(0, 0)};
    for (int n = 0; n < answers.length; n++) {
      Edge.is("call " + n + " is refused", answers[n] == Edge.BAD || answers[n] == Edge.FINDING ? 1 : 0, 1);
    }
    Edge.is("asked()", x.asked(), 77);
    SmellBurdens y = new SmellBurdens();
    Due.fill(y, 0, 77);
    y.at(0, 0);
    Edge.is("round()", y.round(), Edge.STATE);
    Edge.is("cover()", y.cover(), Edge.STATE);
    Edge.is("asked()", y.asked(), 77);
  }

  @Holds(promise = 37, words = "(nor NONE)")
  static void noneTellsNothing() {
    SmellBurdens x = Due.with("n00000s150l0304");
    Due.fill(x, 0, 5, 1, 5, 0);
    x.ass(0, 1);
    Edge.is("marks()", x.marks(0, 20), Edge.NONE);
    Edge.is("asked()", x.asked(), 15);
    Edge.is("cover()", x.cover(), Edge.NONE);
    Edge.is("asked()", x.asked(), 15);
    Edge.is("next()", x.next(0, 0), Edge.NONE);
    Edge.is("asked()", x.asked(), 15);
    Edge.told("a call that is not NONE, though it tells it", x, x.ass(0, 3), Edge.NONE);
    Edge.told("a call that is not NONE, though it tells it", x, x.load(0, 4), Edge.NONE);
  }

  @Holds(promise = 37, words = "What the latest lay(), at(), mean(), ass(), load(), round(), marks(), cover(), next()")
  static void noOtherCallTells() {
    SmellBurdens x = Due.with(Edge.WALK);
    Due.fill(x, 0, 77);
    x.at(0, 0);
    x.row(1, 2);
    x.copy(0, 0, 1, 0, 1);
    x.tear(1);
    x.text(1, 3);
    x.put(1, 0, 5);
    x.fault(0);
    x.mark(0, 1);
    x.day();
    x.smear(0, 1);
    x.lead(0, 3);
    x.undo(1);
    x.keep(0);
    x.on(0);
    x.like(0, 3);
    x.who(3);
    x.where(0, 3);
    x.home();
    x.match(2);
    x.line(0, 0, 3);
    x.row(4, 0);
    x.memories(0, 4);
    x.kinds(0, 4);
    x.duel(0, 1);
    x.odds(0, 3);
    x.mid(3);
    x.lots(1, 1);
    x.upper();
    x.lower();
    x.count(5);
    x.finding();
    x.findings(1);
    x.digest();
    x.plain(0);
    Edge.is("asked()", x.asked(), 77);
  }

  @Holds(promise = 37, words = "0 before.")
  static void askedIs0Before() {
    SmellBurdens x = new SmellBurdens();
    Edge.is("of a new object", x.asked(), 0);
    Due.write(x, 0, Edge.WALK);
    x.plain(0);
    x.day();
    x.home();
    x.at(0, 0);
    x.digest();
    Edge.is("others, refused ones", x.asked(), 0);
  }

  // ---- 38, 39

  @Holds(promise = 38, words = "The upper number that was told last;")
  static void theUpperNumberStaysUntilTheNext() {
    SmellBurdens x = Due.with("n10000a150l1501");
    x.odds(0, 1);
    Edge.is("odds()", x.upper(), 11);
    x.odds(0, 13);
    x.odds(1, 0);
    x.mid(-1);
    Edge.is("refused ones", x.upper(), 11);
    x.day();
    x.plain(0);
    Edge.is("a PLAIN anew", x.upper(), 11);
    x.mid(5);
    Edge.is("mid()", x.upper(), 7);
    x.mid(12);
    Edge.is("0 by 1", x.upper(), 0);
  }

  @Holds(promise = 38, words = "0 before.")
  static void theUpperNumberIs0Before() {
    SmellBurdens x = new SmellBurdens();
    Edge.is("of a new object", x.upper(), 0);
    x.mid(3);
    x.odds(0, 3);
    Edge.is("behind refused ones", x.upper(), 0);
  }

  @Holds(promise = 39, words = "Its lower number;")
  static void theLowerNumberStaysUntilTheNext() {
    SmellBurdens x = Due.with("n10000a150l1501");
    x.odds(0, 2);
    Edge.is("odds()", x.lower(), 6);
    x.odds(0, 13);
    x.odds(1, 0);
    x.mid(-1);
    Edge.is("refused ones", x.lower(), 6);
    x.day();
    x.plain(0);
    Edge.is("a PLAIN anew", x.lower(), 6);
    x.mid(5);
    Edge.is("mid()", x.lower(), 12);
    x.mid(12);
    Edge.is("0 by 1", x.lower(), 1);
  }

  @Holds(promise = 39, words = "1 before.")
  static void theLowerNumberIs1Before() {
    SmellBurdens x = new SmellBurdens();
    Edge.is("of a new object", x.lower(), 1);
    x.mid(3);
    x.odds(0, 3);
    Edge.is("behind refused ones", x.lower(), 1);
  }

  // ---- 40

  private static void countIs(String signs, int what, int want) {
    Edge.is("count(" + what + ") of " + signs, Due.with(signs).count(what), want);
  }

  @Holds(promise = 40, words = "0 ASSES, 1 LOADS")
  static void assesAndLoadsFromNoneToAll() {
    Edge.is("no ASSES", new SmellBurdens().count(0), 0);
    Edge.is("no LOADS", new SmellBurdens().count(1), 0);
    countIs("n01234a000l0000", 0, 1);
    countIs("n01234a000l0000", 1, 1);
    countIs("n01234a000a000a000a000l0000l0000l0000l0000l0000", 0, 4);
    countIs("n01234a000a000a000a000l0000l0000l0000l0000l0000", 1, 5);
  }

  @Holds(promise = 40, words = "2 the DAY, 3 DEEDS")
  static void theDayAndDeedsFromNoneToForty() {
    SmellBurdens x = Due.with(Edge.WALK);
    for (int d = 0; d < 40; d++) {
      Edge.is("the DAY", x.count(2), (d + 1) / 2);
      Edge.is("DEEDS", x.count(3), d);
      if (d % 2 == 0) {
        x.day();
      } else {
        x.smear(0, 3);
      }
    }
    Edge.is("the DAY at last", x.count(2), 20);
    Edge.is("DEEDS at last", x.count(3), 40);
    x.undo(39);
    Edge.is("the last was no DAY", x.count(2), 20);
    x.undo(38);
    Edge.is("but the one ahead", x.count(2), 19);
    Edge.is("forty DAYS", Edge.full(Edge.WALK).count(2), 40);
    Edge.is("no DAY without a PLAIN", new SmellBurdens().count(2), 0);
    Edge.is("no DEEDS without a PLAIN", new SmellBurdens().count(3), 0);
  }

  @Holds(promise = 40, words = "4 LOADS at their HOMES (bits)")
  static void loadsAtTheirHomesFromNoneToAll() {
    Edge.is("without a PLAIN", new SmellBurdens().count(4), 0);
    countIs("n00000a000l0001l0012l0023l0034l0040", 4, 0);
    countIs("n00000a000l0000l0012l0023l0034l0040", 4, 1);
    countIs("n00000a000l0001l0012l0023l0034l0044", 4, 16);
    countIs("n00000a000l0000l0011l0022l0033l0044", 4, 31);
  }

  @Holds(promise = 40, words = "5 the ROADS (as a number of five figures, that of INN 0 the highest)")
  static void roadsFrom0To44444() {
    Edge.is("without a PLAIN", new SmellBurdens().count(5), 0);
    countIs("n00000a000l0000", 5, 0);
    countIs("n00004a000l0000", 5, 4);
    countIs("n40000a000l0000", 5, 40000);
    countIs("n01234a000l0000", 5, 1234);
    countIs("n44444a000l0000", 5, 44444);
  }

  @Holds(promise = 40, words = "6 GREYS (OLD ones, too), 7 STUBBORN ones (MULES, too)")
  static void greysAndStubbornOnesFromNoneToFour() {
    Edge.is("no GREYS without a PLAIN", new SmellBurdens().count(6), 0);
    Edge.is("no STUBBORN ones without a PLAIN", new SmellBurdens().count(7), 0);
    countIs("n00000a000y000s000m000l0000", 6, 0);
    countIs("n00000g000o000g000o000l0000", 6, 4);
    countIs("n00000a000a000a000o000l0000", 6, 1);
    countIs("n00000a000y000g000o000l0000", 7, 0);
    countIs("n00000s000m000s000m000l0000", 7, 4);
    countIs("n00000a000a000a000m000l0000", 7, 1);
  }

  @Holds(promise = 40, words = "8 ROWS, 9 TEXTS that are there")
  static void rowsAndTextsFromNoneToAll() {
    SmellBurdens x = new SmellBurdens();
    for (int r = 0; r < 6; r++) {
      Edge.is("ROWS", x.count(8), r);
      x.row(r, r % 2);
    }
    Edge.is("all ROWS", x.count(8), 6);
    for (int t = 0; t < 4; t++) {
      Edge.is("TEXTS", x.count(9), t);
      x.text(t, t % 2);
    }
    Edge.is("all TEXTS", x.count(9), 4);
    x.row(0, 5);
    x.text(0, 5);
    Edge.is("one anew", x.count(8), 6);
    Edge.is("one anew", x.count(9), 4);
    x.tear(5);
    Edge.is("one torn", x.count(8), 5);
  }

  @Holds(promise = 40, words = "10 kept PLAINS.")
  static void keptPlainsFromNoneToThree() {
    SmellBurdens x = Due.with(Edge.WALK);
    for (int k = 0; k < 3; k++) {
      Edge.is("kept", x.count(10), k);
      x.keep(2 - k);
    }
    Edge.is("all", x.count(10), 3);
    x.keep(0);
    x.on(0);
    Edge.is("one again, gone on from", x.count(10), 3);
    x.plain(0);
    Edge.is("they go", x.count(10), 0);
  }

  @Holds(promise = 40, words = "BAD.")
  static void noSuchCountIsBad() {
    SmellBurdens x = Edge.rich();
    Edge.badOutside("count(..)", x, 0, 10, x::count);
    Edge.takenInside("count(..)", x.count(0), x.count(10));
    SmellBurdens y = new SmellBurdens();
    Edge.badOutside("count(..) of a new one", y, 0, 10, y::count);
  }

  // ---- 41

  @Holds(promise = 41, words = "The latest FINDING")
  static void theLatestFindingStays() {
    SmellBurdens x = Due.with(Edge.WALK);
    x.row(0, -1);
    Edge.is("SIZE", x.finding(), 5);
    x.row(0, 0);
    x.day();
    x.plain(0);
    x.row(9, 0);
    x.lead(0, 0);
    Edge.is("what is none leaves it", x.finding(), 5);
    x.mean(0);
    Edge.is("NOUGHT", x.finding(), 4);
    x.mark(0, 1);
    Edge.is("UNLIKE", x.finding(), 3);
    x.at(0, 0);
    Edge.is("BEYOND", x.finding(), 2);
    x.tear(1);
    Edge.is("NOTHING", x.finding(), 1);
  }

  @Holds(promise = 41, words = "(0 before any).")
  static void findingIs0BeforeAny() {
    SmellBurdens x = new SmellBurdens();
    Edge.is("of a new object", x.finding(), 0);
    x.row(6, 0);
    x.row(0, 41);
    x.day();
    x.ass(0, 0);
    Edge.is("BAD, STATE are none", x.finding(), 0);
    SmellBurdens y = Edge.full(Edge.WALK);
    y.day();
    y.plain(0);
    y.marks(0, 0);
    Edge.is("FULL, NONE are none", y.finding(), 0);
  }

  // ---- 42

  @Holds(promise = 42, words = "How often a FINDING (1 .. 5) was answered.")
  static void eachFindingIsCountedByItself() {
    SmellBurdens x = Due.with(Edge.WALK);
    x.row(0, 0);
    for (int n = 1; n <= 20; n++) {
      x.tear(1);
      x.at(0, n);
      x.mark(0, 2);
      x.mean(0);
      x.row(0, -n);
      for (int f = 1; f <= 5; f++) {
        Edge.is("findings(" + f + ")", x.findings(f), n);
      }
    }
    x.mean(0);
    Edge.is("one more", x.findings(4), 21);
    Edge.is("the others not", x.findings(5), 20);
    x.plain(0);
    Edge.is("a PLAIN anew leaves them", x.findings(1), 20);
  }

  @Holds(promise = 42, words = "BAD.")
  static void noSuchFindingIsBad() {
    SmellBurdens x = new SmellBurdens();
    x.tear(0);
    Edge.badOutside("findings(..)", x, 1, 5, x::findings);
    Edge.takenInside("findings(..)", x.findings(1), x.findings(5));
  }

  // ---- 43

  private static void add(List<Integer> all, int... values) {
    for (int v : values) {
      all.add(v);
    }
  }

  /** h in whole numbers without an end, then cut to a long. */
  private static long mixed(List<Integer> all) {
    BigInteger h = BigInteger.valueOf(17);
    for (int v : all) {
      h = h.multiply(BigInteger.valueOf(31)).add(BigInteger.valueOf(v));
    }
    return h.longValue();
  }

  @Holds(promise = 43, words = "h = 17; then h = 31 h + v for each v")
  static void theDigestOfANewObject() {
    List<Integer> all = new ArrayList<>();
    add(all, 0, 0, 0, 0, 0, 0, 0, 0, 0, 0, 0);
    add(all, -1, -1, -1);
    add(all, -1, -1, -1, -1, -1, -1);
    add(all, -1, -1, -1, -1);
    Edge.is("digest()", new SmellBurdens().digest(), mixed(all));
  }

  @Holds(promise = 43, words = "count() 0 to 10; of each ASS ass() 0 to 3; of each LOAD load() 0 to 4;")
  static void theDigestOfFourAssesAndFiveLoads() {
    SmellBurdens x = Due.with("n43210a010g021y032m154l0104l0214l0322l0433l1540");
    x.tear(0);
    List<Integer> all = new ArrayList<>();
    // LOADS 2 (4) and 3 (8) are at their HOMES; one GREY, one MULE; one TEXT
    add(all, 4, 5, 0, 0, 12, 43210, 1, 1, 0, 1, 0);
    add(all, 0, 1, 0, 0, 1, 2, 1, 1, 2, 3, 2, Edge.NONE, 5, 15, 4, 4);
    add(all, 1, 0, 4, 0, 0, 2, 1, 4, 0, 1, 3, 2, 2, 1, Edge.NONE, 4, 3, 3, 1, Edge.NONE, 15, 4, 0, 0, 3);
    add(all, -1, -1, -1, -1, -1, -1, -1, -1, -1, 47);
    String signs = "n43210a010g021y032m154l0104l0214l0322l0433l1540";
    for (int i = 0; i < signs.length(); i++) {
      add(all, signs.charAt(i));
    }
    add(all, -1, -1, -1);
    Edge.is("digest()", x.digest(), mixed(all));
  }

  @Holds(promise = 43, words = "of each kept PLAIN how many DEEDS (-1: missing); of each ROW its size (-1: missing) and places, of each TEXT likewise.")
  static void theDigestOfKeptPlainsRowsAndTexts() {
    SmellBurdens x = Edge.full(Edge.WALK);
    x.keep(2);
    x.undo(0);
    x.keep(0);
    x.text(0, 0);
    x.text(3, 2);
    x.put(3, 0, -128);
    x.put(3, 1, 127);
    x.row(0, 0);
    Due.fill(x, 5, Edge.LEAST, Edge.MOST, -1);
    List<Integer> all = new ArrayList<>();
    add(all, 1, 1, 0, 0, 0, 12340, 0, 0, 2, 2, 2);
    add(all, 0, 5, 0, 0);
    add(all, 5, 0, 4, 0, 0);
    add(all, 0, -1, 40);
    add(all, 0, -1, -1, -1, -1, 3, Edge.LEAST, Edge.MOST, -1);
    add(all, 0, -1, -1, 2, -128, 127);
    Edge.is("digest()", x.digest(), mixed(all));
    x.tear(0);
    Edge.is("an empty ROW isn't a missing one", x.digest() == mixed(all) ? 1 : 0, 0);
  }

  @Holds(promise = 43, words = "h = 17; then h = 31 h + v for each v")
  static void theDigestOfAllThatCanBeThereWrapsRound() {
    SmellBurdens x = new SmellBurdens();
    List<Integer> all = new ArrayList<>();
    add(all, 0, 0, 0, 0, 0, 0, 0, 0, 6, 4, 0);
    add(all, -1, -1, -1);
    for (int r = 0; r < 6; r++) {
      x.row(r, 40);
      add(all, 40);
      for (int i = 0; i < 40; i++) {
        int v = i % 2 == 0 ? Edge.MOST - r : Edge.LEAST + i;
        if (i < 20) {
          x.lay(r, i, v);
        }
        add(all, i < 20 ? v : 0);
      }
    }
    for (int t = 0; t < 4; t++) {
      x.text(t, 60);
      x.put(t, 59, -1 - t);
      add(all, 60);
      for (int i = 0; i < 59; i++) {
        add(all, 32);
      }
      add(all, -1 - t);
    }
    Edge.is("digest()", x.digest(), mixed(all));
  }

  @Holds(promise = 43, words = "(of a call that tells by asked(): what it tells, not the 1 that it answers; asked() stays):")
  static void theDigestTellsNothingElse() {
    SmellBurdens x = Edge.rich();
    x.ass(1, 1);
    Edge.told("ahead", x, x.at(0, 2), 7);
    long digest = x.digest();
    Edge.is("asked() stays", x.asked(), 7);
    Edge.still("digest() changes nothing", x, 1, () -> x.digest() == digest ? 1 : 0);
  }
}
