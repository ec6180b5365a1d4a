/** Each promise of the document by hand-worked answers: ordinary, at the edges, and wrong inputs. */
public final class PromiseTests {
  private static final int BAD = -1, FULL = -2, FINDING = -3, STATE = -4, NONE = -9;
  private static final int NOTHING = 1, BEYOND = 2, UNLIKE = 3, NOUGHT = 4, SIZE = 5;
  private static final String MARKET = "n12340 a050g130y002s110 l0504l0701l1202l1500l0331";
  /** One ASS that goes INN by INN with its LOAD, which is at home behind four DAYS. */
  private static final String WALK = "n12340a050l0504";
  private static final Due due = new Due();
  private static int promise;

  private static void is(String call, long got, long want) {
    due.is("promise " + promise + ": " + call, got, want);
  }

  /** A call that is refused by a FINDING: it is told, and counted once. */
  private static void found(String call, SmellBurdens x, int countBefore, int got, int finding) {
    is(call, got, FINDING);
    is(call + " finding()", x.finding(), finding);
    is(call + " findings()", x.findings(finding), countBefore + 1);
  }

  private static void told(String call, SmellBurdens x, int got, int want) {
    is(call, got, 1);
    is(call + " asked()", x.asked(), want);
  }

  private static void fraction(String call, SmellBurdens x, int got, long upper, long lower) {
    is(call, got, 1);
    is(call + " upper()", x.upper(), upper);
    is(call + " lower()", x.lower(), lower);
  }

  private static void rowIs(String call, SmellBurdens x, int r, int... want) {
    for (int i = 0; i < want.length; i++) {
      told(call + " place " + i, x, x.at(r, i), want[i]);
    }
    is(call + " ends there", x.at(r, want.length), FINDING);
  }

  public static void main(String[] args) {
    promise = 1; newObject();
    promise = 2; rowCall();
    promise = 3; layCall();
    promise = 4; atCall();
    promise = 5; tearCall();
    promise = 6; copyCall();
    promise = 7; meanCall();
    promise = 8; textCall();
    promise = 9; putCall();
    promise = 10; faultCall();
    promise = 11; plainCall();
    promise = 12; assCall();
    promise = 13; loadCall();
    promise = 14; markCall();
    promise = 15; dayCall();
    promise = 16; smearCall();
    promise = 17; leadCall();
    promise = 18; undoCall();
    promise = 19; keepCall();
    promise = 20; onCall();
    promise = 21; likeCall();
    promise = 22; whoCall();
    promise = 23; whereCall();
    promise = 24; homeCall();
    promise = 25; roundCall();
    promise = 26; marksCall();
    promise = 27; matchCall();
    promise = 28; lineCall();
    promise = 29; coverCall();
    promise = 30; memoriesCall();
    promise = 31; kindsCall();
    promise = 32; nextCall();
    promise = 33; duelCall();
    promise = 34; oddsCall();
    promise = 35; midCall();
    promise = 36; lotsCall();
    promise = 37; askedCall();
    promise = 38; upperCall();
    promise = 39; lowerCall();
    promise = 40; countCall();
    promise = 41; findingCall();
    promise = 42; findingsCall();
    promise = 43; digestCall();
    due.end();
  }

  private static void newObject() {
    SmellBurdens x = new SmellBurdens();
    for (int what = 0; what <= 10; what++) {
      is("count(" + what + ")", x.count(what), 0);
    }
    is("asked()", x.asked(), 0);
    is("upper()", x.upper(), 0);
    is("lower()", x.lower(), 1);
    is("finding()", x.finding(), 0);
    for (int f = 1; f <= 5; f++) {
      is("findings(" + f + ")", x.findings(f), 0);
    }
    for (int r = 0; r < 6; r++) {
      found("tear(" + r + ")", x, r, x.tear(r), NOTHING);
    }
    for (int t = 0; t < 4; t++) {
      found("fault(" + t + ")", x, 6 + t, x.fault(t), NOTHING);
    }
    is("ass(0, 0)", x.ass(0, 0), BAD);
    is("load(0, 0)", x.load(0, 0), BAD);
    is("day()", x.day(), STATE);
    is("undo(0)", x.undo(0), 0);
    is("who(0)", x.who(0), 0);
  }

  private static void rowCall() {
    SmellBurdens x = new SmellBurdens();
    is("row(0, 0)", x.row(0, 0), 0);
    is("row(5, 40)", x.row(5, 40), 40);
    told("at(5, 39)", x, x.at(5, 39), 0);
    is("row(5, 41)", x.row(5, 41), BAD);
    is("row(5, most)", x.row(5, Integer.MAX_VALUE), BAD);
    is("row(-1, 1)", x.row(-1, 1), BAD);
    is("row(6, 1)", x.row(6, 1), BAD);
    is("row(6, -1)", x.row(6, -1), BAD);
    is("no finding yet", x.finding(), 0);
    found("row(5, -1)", x, 0, x.row(5, -1), SIZE);
    found("row(5, least)", x, 1, x.row(5, Integer.MIN_VALUE), SIZE);
    told("it stays", x, x.at(5, 39), 0);
    is("count(8)", x.count(8), 2);
    x.lay(5, 1, 7);
    is("row(5, 2)", x.row(5, 2), 2);
    told("anew", x, x.at(5, 1), 0);
    is("it is smaller", x.at(5, 2), FINDING);
  }

  private static void layCall() {
    SmellBurdens x = new SmellBurdens();
    x.row(1, 3);
    told("lay(1, 2, 8)", x, x.lay(1, 2, 8), 0);
    told("lay(1, 2, least)", x, x.lay(1, 2, Integer.MIN_VALUE), 8);
    told("at(1, 2)", x, x.at(1, 2), Integer.MIN_VALUE);
    told("at(1, 1)", x, x.at(1, 1), 0);
    is("lay(6, 0, 1)", x.lay(6, 0, 1), BAD);
    is("lay(-1, 0, 1)", x.lay(-1, 0, 1), BAD);
    found("lay(0, 0, 1)", x, 0, x.lay(0, 0, 1), NOTHING);
    found("lay(0, -1, 1)", x, 1, x.lay(0, -1, 1), NOTHING);
    found("lay(1, 3, 1)", x, 0, x.lay(1, 3, 1), BEYOND);
    found("lay(1, -1, 1)", x, 1, x.lay(1, -1, 1), BEYOND);
    found("lay(1, most, 1)", x, 2, x.lay(1, Integer.MAX_VALUE, 1), BEYOND);
    is("asked() stays", x.asked(), 0);
  }

  private static void atCall() {
    SmellBurdens x = new SmellBurdens();
    Due.fill(x, 2, 4, -5, 6);
    rowIs("row 2", x, 2, 4, -5, 6);
    is("at(6, 0)", x.at(6, 0), BAD);
    is("at(-1, 0)", x.at(-1, 0), BAD);
    found("at(3, 0)", x, 0, x.at(3, 0), NOTHING);
    found("at(2, -1)", x, 1, x.at(2, -1), BEYOND);
    x.row(3, 0);
    found("at(3, 0)", x, 2, x.at(3, 0), BEYOND);
    is("asked() stays", x.asked(), 6);
  }

  private static void tearCall() {
    SmellBurdens x = new SmellBurdens();
    x.row(4, 2);
    is("tear(4)", x.tear(4), 1);
    is("count(8)", x.count(8), 0);
    found("tear(4)", x, 0, x.tear(4), NOTHING);
    found("at(4, 0)", x, 1, x.at(4, 0), NOTHING);
    is("tear(6)", x.tear(6), BAD);
    is("tear(-1)", x.tear(-1), BAD);
  }

  private static void copyCall() {
    SmellBurdens x = new SmellBurdens();
    Due.fill(x, 0, 1, 2, 3, 4, 5);
    Due.fill(x, 1, 9, 9, 9);
    is("copy(0, 1, 1, 0, 2)", x.copy(0, 1, 1, 0, 2), 1);
    rowIs("row 1", x, 1, 2, 3, 9);
    is("copy on", x.copy(0, 0, 0, 1, 4), 1);
    rowIs("row 0", x, 0, 1, 1, 2, 3, 4);
    is("copy back", x.copy(0, 1, 0, 0, 4), 1);
    rowIs("row 0", x, 0, 1, 2, 3, 4, 4);
    is("none of them", x.copy(0, 5, 1, 3, 0), 1);
    is("copy(6, ..)", x.copy(6, 0, 0, 0, -1), BAD);
    is("copy(.., -1, ..)", x.copy(0, 0, -1, 0, 1), BAD);
    int beyond = x.findings(BEYOND);
    found("n below 0", x, 0, x.copy(5, 0, 0, 0, -1), SIZE);
    found("no ROW", x, 0, x.copy(5, 99, 0, 0, 1), NOTHING);
    found("no ROW to", x, 1, x.copy(0, 99, 5, 0, 1), NOTHING);
    found("too many of", x, beyond, x.copy(0, 4, 1, 0, 2), BEYOND);
    found("too many to", x, beyond + 1, x.copy(0, 0, 1, 2, 2), BEYOND);
    found("i above, n 0", x, beyond + 2, x.copy(0, 6, 1, 0, 0), BEYOND);
    found("j below, n 0", x, beyond + 3, x.copy(0, 0, 1, -1, 0), BEYOND);
    found("n huge", x, beyond + 4, x.copy(0, 1, 1, 1, Integer.MAX_VALUE), BEYOND);
    found("i huge", x, beyond + 5, x.copy(0, Integer.MAX_VALUE, 1, 0, 1), BEYOND);
    rowIs("it stays", x, 1, 2, 3, 9);
  }

  private static void meanCall() {
    SmellBurdens x = new SmellBurdens();
    Due.fill(x, 0, 1, 2, 4);
    told("mean(0)", x, x.mean(0), 2);
    Due.fill(x, 0, 9);
    told("mean of one", x, x.mean(0), 9);
    Due.fill(x, 0, -1, -2, -5);
    told("mean below 0, cut", x, x.mean(0), -2);
    Due.fill(x, 0, Integer.MAX_VALUE, Integer.MAX_VALUE);
    told("mean of the greatest", x, x.mean(0), Integer.MAX_VALUE);
    Due.fill(x, 0, Integer.MIN_VALUE, Integer.MIN_VALUE, Integer.MIN_VALUE);
    told("mean of the least", x, x.mean(0), Integer.MIN_VALUE);
    is("mean(6)", x.mean(6), BAD);
    is("mean(-1)", x.mean(-1), BAD);
    found("mean(1)", x, 0, x.mean(1), NOTHING);
    x.row(1, 0);
    found("mean(1)", x, 0, x.mean(1), NOUGHT);
  }

  private static void textCall() {
    SmellBurdens x = new SmellBurdens();
    is("text(0, 0)", x.text(0, 0), 0);
    is("text(3, 60)", x.text(3, 60), 60);
    is("text(3, 61)", x.text(3, 61), BAD);
    is("text(4, 1)", x.text(4, 1), BAD);
    is("text(-1, 1)", x.text(-1, 1), BAD);
    is("text(4, -1)", x.text(4, -1), BAD);
    found("text(3, -1)", x, 0, x.text(3, -1), SIZE);
    is("put(3, 59, 65)", x.put(3, 59, 65), 1032);
    is("text(3, 60)", x.text(3, 60), 60);
    is("blanks anew", x.put(3, 59, 65), 1032);
    is("count(9)", x.count(9), 2);
  }

  private static void putCall() {
    SmellBurdens x = new SmellBurdens();
    x.text(1, 2);
    is("put(1, 0, 127)", x.put(1, 0, 127), 1032);
    is("put(1, 0, 128)", x.put(1, 0, 128), 1127);
    is("put(1, 0, 255)", x.put(1, 0, 255), 872);
    is("put(1, 0, -129)", x.put(1, 0, -129), 999);
    is("put(1, 0, 256)", x.put(1, 0, 256), 1127);
    is("put(1, 0, 1)", x.put(1, 0, 1), 1000);
    is("put(4, 0, 1)", x.put(4, 0, 1), BAD);
    is("put(-1, 0, 1)", x.put(-1, 0, 1), BAD);
    found("put(0, 5, 1)", x, 0, x.put(0, 5, 1), NOTHING);
    found("put(1, 2, 1)", x, 0, x.put(1, 2, 1), BEYOND);
    found("put(1, -1, 1)", x, 1, x.put(1, -1, 1), BEYOND);
    is("asked()", x.asked(), 0);
  }

  private static void faultIs(String signs, int want) {
    SmellBurdens x = new SmellBurdens();
    Due.write(x, 2, signs);
    is("fault of '" + signs + "'", x.fault(2), want);
  }

  private static void faultCall() {
    faultIs(MARKET, NONE);
    faultIs("   n01234   a000   l0000   ", NONE);
    faultIs("n01234g010o150s100y000l0000l1010l1111l1544l0944             ", NONE);
    faultIs("", 0);
    faultIs("   ", 3);
    faultIs("x", 0);
    faultIs("a000l0000", 0);
    faultIs("n0123 a000l0000", 5);
    faultIs("  N01234", 2);
    faultIs("\tn01234", 0);
    faultIs("\u00e1", 0);
    faultIs("n", 1);
    faultIs("n0123", 5);
    faultIs("n5", 1);
    faultIs("n0123/", 5);
    faultIs("n0123:", 5);
    faultIs("n 01234", 1);
    faultIs("n01234", 6);
    faultIs("n01234 ", 7);
    faultIs("n012340", 6);
    faultIs("n01234 l0000", 7);
    faultIs("n01234 b", 7);
    faultIs("n01234 n01234", 7);
    faultIs("n01234a", 7);
    faultIs("n01234a1", 8);
    faultIs("n01234a15", 9);
    faultIs("n01234a16", 7);
    faultIs("n01234a160", 7);
    faultIs("n01234a200", 7);
    faultIs("n01234a99", 7);
    faultIs("n01234ax5", 7);
    faultIs("n01234a1x", 8);
    faultIs("n01234a9x", 8);
    faultIs("n01234a1:0", 8);
    faultIs("n01234a:", 7);
    faultIs("n01234a1 5", 8);
    faultIs("n01234a15 0", 9);
    faultIs("n01234a155", 9);
    faultIs("n01234a154", 10);
    faultIs("n01234a154  ", 12);
    faultIs("n01234a154l", 11);
    faultIs("n01234a154l1600", 11);
    faultIs("n01234a154l1550", 13);
    faultIs("n01234a154l1505", 14);
    faultIs("n01234a154l150", 14);
    faultIs("n01234a154l1500a", 15);
    faultIs("n01234a154l1500x", 15);
    faultIs("n01234a154l15000", 15);
    faultIs("n01234a1 a000l0000", 8);
    faultIs("n01234a154l15 l1500", 13);
    faultIs("n01234a154l1500 l1", 18);
    faultIs("n01234a000a000a000a000 a", 23);
    faultIs("n01234a000a000a000a000b", 22);
    faultIs("n01234a000l0000l0000l0000l0000l0000 l", 36);
    faultIs("n01234a000l0000l0000l0000l0000l0000 ", NONE);
    SmellBurdens x = new SmellBurdens();
    is("fault(4)", x.fault(4), BAD);
    is("fault(-1)", x.fault(-1), BAD);
    found("fault(0)", x, 0, x.fault(0), NOTHING);
  }

  private static void plainCall() {
    SmellBurdens x = Due.with(MARKET);
    x.day();
    x.keep(0);
    Due.write(x, 1, WALK);
    Due.write(x, 2, "n12340a050");
    is("plain(2)", x.plain(2), STATE);
    is("no finding by that", x.finding(), 0);
    is("it stays: LOADS", x.count(1), 5);
    is("it stays: DAY", x.count(2), 1);
    is("it stays: kept", x.count(10), 1);
    found("plain(3)", x, 0, x.plain(3), NOTHING);
    is("plain(4)", x.plain(4), BAD);
    is("plain(-1)", x.plain(-1), BAD);
    is("plain(1)", x.plain(1), 1);
    is("ASSES", x.count(0), 1);
    is("LOADS", x.count(1), 1);
    is("DAY", x.count(2), 0);
    is("DEEDS", x.count(3), 0);
    is("kept", x.count(10), 0);
    is("ROADS", x.count(5), 12340);
    Due.write(x, 1, "n43210o091l1234");
    is("the TEXT is apart", x.count(5), 12340);
    is("plain(1)", x.plain(1), 1);
    is("ROADS", x.count(5), 43210);
    told("MEMORY", x, x.ass(0, 1), 9);
    told("INN", x, x.ass(0, 2), 1);
    told("MARKS", x, x.load(0, 0), 12);
    told("INN of the LOAD", x, x.load(0, 1), 3);
    told("HOME", x, x.load(0, 2), 4);
    Due.write(x, 1, "n00000y000l0003");
    is("plain(1)", x.plain(1), 1);
    told("no KIND is left of the one before", x, x.ass(0, 0), 2);
    told("no MEMORY", x, x.ass(0, 1), 0);
    told("no INN", x, x.ass(0, 2), 0);
    told("no HOME", x, x.load(0, 2), 3);
    is("no ROADS", x.count(5), 0);
  }

  private static void assCall() {
    SmellBurdens x = Due.with("n00000a010g020y033s040l0101");
    told("a", x, x.ass(0, 0), 0);
    told("g", x, x.ass(1, 0), 1);
    told("y", x, x.ass(2, 0), 2);
    told("s", x, x.ass(3, 0), 3);
    told("MEMORY", x, x.ass(2, 1), 3);
    told("INN", x, x.ass(2, 2), 3);
    is("ass(4, 0)", x.ass(4, 0), BAD);
    is("ass(-1, 0)", x.ass(-1, 0), BAD);
    is("ass(0, 4)", x.ass(0, 4), BAD);
    is("ass(0, -1)", x.ass(0, -1), BAD);
    x = Due.with("n00000o010m020l0001");
    told("o", x, x.ass(0, 0), 4);
    told("m", x, x.ass(1, 0), 5);
    // the first takes the most like one, the second what is left, of like ones the first
    x = Due.with("n00000a150a150a150a151l0304l1504l1204l1500l1514");
    told("most LIKE", x, x.ass(0, 3), 1);
    told("left, the first of like ones", x, x.ass(1, 3), 0);
    told("left", x, x.ass(2, 3), 2);
    told("at another INN", x, x.ass(3, 3), 4);
    x = Due.with("n00000a150l1500l0004");
    told("not what is at HOME, not what it REFUSES", x, x.ass(0, 3), NONE);
  }

  private static void loadCall() {
    SmellBurdens x = Due.with("n00000a150l0304l1504l1200l0012");
    told("MARKS", x, x.load(0, 0), 3);
    told("INN", x, x.load(3, 1), 1);
    told("HOME", x, x.load(3, 2), 2);
    told("not at HOME", x, x.load(0, 3), 0);
    told("at HOME", x, x.load(2, 3), 1);
    told("taken", x, x.load(1, 4), 0);
    told("not taken", x, x.load(0, 4), NONE);
    SmellBurdens y = Due.with("n00000a152a150l1514l1504");
    told("nobody is there", y, y.load(0, 4), NONE);
    told("taken by ASS 1", y, y.load(1, 4), 1);
    is("load(4, 0)", x.load(4, 0), BAD);
    is("load(-1, 0)", x.load(-1, 0), BAD);
    is("load(0, 5)", x.load(0, 5), BAD);
    is("load(0, -1)", x.load(0, -1), BAD);
  }

  private static void markCall() {
    SmellBurdens x = Due.with("n00000g130o070y051m150l0504l0522l1511l0033");
    is("GREY", x.mark(0, 1), 3);
    is("an OLD one is a GREY", x.mark(1, 1), 3);
    is("OLD: the most LIKE anywhere", x.mark(1, 4), 6);
    is("YOUNG: just like", x.mark(2, 2), 2);
    is("YOUNG: just like none", Due.with("n00000y050l0704").mark(0, 2), 0);
    is("YOUNG: the first, wherever", Due.with("n00000y050l0533l0704l0604").mark(0, 2), 1);
    is("YOUNG: just like no MARKS", Due.with("n00000y000l0704").mark(0, 2), 0);
    is("OLD: the first is the most LIKE", Due.with("n00000o150l1504l0104").mark(0, 4), 8);
    is("MULE", x.mark(3, 5), 4);
    is("a MULE is a STUBBORN one", x.mark(3, 3), 3);
    found("a GREY is no OLD one", x, 0, x.mark(0, 4), UNLIKE);
    found("a YOUNG one is no GREY", x, 1, x.mark(2, 1), UNLIKE);
    found("a MULE is no YOUNG one", x, 2, x.mark(3, 2), UNLIKE);
    is("KIND 0", x.mark(0, 0), BAD);
    is("KIND 6", x.mark(0, 6), BAD);
    is("KIND -1", x.mark(0, -1), BAD);
    is("no such ASS", x.mark(4, 1), BAD);
    is("no such ASS", x.mark(-1, 1), BAD);
    x = Due.with("n00000s150a150l1400l1211l0004");
    is("STUBBORN: it REFUSES below 3", x.mark(0, 3), 2);
    found("a STUBBORN one is no MULE", x, 0, x.mark(0, 5), UNLIKE);
    found("an ASS is no STUBBORN one", x, 1, x.mark(1, 3), UNLIKE);
    x = Due.with("n00000o080l0700");
    is("OLD: none is LIKE", x.mark(0, 4), 0);
  }

  private static void dayCall() {
    SmellBurdens x = Due.with(WALK);
    is("day()", x.day(), 1);
    told("the ASS goes", x, x.ass(0, 2), 1);
    told("the LOAD goes", x, x.load(0, 1), 1);
    is("DAY 1", x.count(2), 1);
    is("DEED 1", x.count(3), 1);
    x.day();
    x.day();
    is("day()", x.day(), 1);
    is("at HOME", x.count(4), 1);
    is("day()", x.day(), 0);
    told("it stays", x, x.ass(0, 2), 4);
    is("DAY 5", x.count(2), 5);
    told("a MEMORY stays", x, x.ass(0, 1), 5);

    x = Due.with("n12340y060l0702");
    is("day()", x.day(), 1);
    told("a YOUNG one remembers", x, x.ass(0, 1), 7);

    // one that comes to an INN takes nothing there on the same DAY, nor what came the same DAY
    x = Due.with("n12340a150a151l1504l1514");
    is("day()", x.day(), 2);
    told("LOAD 0", x, x.load(0, 1), 1);
    told("LOAD 1", x, x.load(1, 1), 2);

    x = Due.with("n00000m150s150l0704l1504l0704");
    is("day()", x.day(), 2);
    x = Due.with("n00000s150m150l1504l0704l0704");
    is("the MULE REFUSES what is left", x.day(), 1);
    x = Due.with("n00000s150l0304");
    is("the STUBBORN one REFUSES 2", x.day(), 0);
    x = Due.with("n00000s150l0704");
    is("the STUBBORN one TAKES 3, by a ROAD to itself", x.day(), 1);
    x = Due.with("n00000g010l1404");
    is("a GREY REFUSES 0", x.day(), 0);
    x = Due.with("n00000o010l0104");
    is("an OLD one TAKES 2", x.day(), 1);

    is("day()", new SmellBurdens().day(), STATE);
    for (int d = 1; d < 40; d++) {
      is("day " + d, x.day(), 1);
    }
    is("the forty-first", x.day(), FULL);
    is("DAY 40", x.count(2), 40);
  }

  private static void smearCall() {
    SmellBurdens x = Due.with(MARKET);
    is("smear(1, 3)", x.smear(1, 3), 15);
    is("smear(1, 0)", x.smear(1, 0), 14);
    is("smear(1, 3)", x.smear(1, 3), 6);
    is("smear(0, 1)", x.smear(0, 1), 7);
    told("load(1, 0)", x, x.load(1, 0), 6);
    told("load(0, 0)", x, x.load(0, 0), 7);
    is("DEEDS", x.count(3), 4);
    is("DAY", x.count(2), 0);
    is("smear(5, 0)", x.smear(5, 0), BAD);
    is("smear(-1, 0)", x.smear(-1, 0), BAD);
    is("smear(0, 4)", x.smear(0, 4), BAD);
    is("smear(0, -1)", x.smear(0, -1), BAD);
    for (int n = 4; n < 40; n++) {
      x.smear(4, 0);
    }
    is("FULL", x.smear(4, 0), FULL);
    is("BAD first", x.smear(5, 0), BAD);
    told("load(4, 0)", x, x.load(4, 0), 3);
    is("without LOADS", new SmellBurdens().smear(0, 0), BAD);
  }

  private static void leadCall() {
    SmellBurdens x = Due.with(MARKET);
    is("lead(2, 4)", x.lead(2, 4), 2);
    is("lead(2, 0)", x.lead(2, 0), 4);
    told("ass(2, 2)", x, x.ass(2, 2), 0);
    is("it is there", x.lead(2, 0), STATE);
    is("DEEDS", x.count(3), 2);
    is("lead(4, 0)", x.lead(4, 0), BAD);
    is("lead(-1, 0)", x.lead(-1, 0), BAD);
    is("lead(0, 5)", x.lead(0, 5), BAD);
    is("lead(0, -1)", x.lead(0, -1), BAD);
    for (int n = 2; n < 40; n++) {
      x.lead(3, n % 2 == 0 ? 1 : 0);
    }
    is("FULL last: it is there", x.lead(3, 0), STATE);
    is("FULL", x.lead(3, 1), FULL);
    is("BAD first", x.lead(3, 5), BAD);
  }

  private static void undoCall() {
    SmellBurdens x = Due.with("n12340y060l0703");
    long first = x.digest();
    x.day();
    long second = x.digest();
    x.smear(0, 3);
    x.lead(0, 4);
    x.day();
    is("undo(5)", x.undo(5), BAD);
    is("undo(-1)", x.undo(-1), BAD);
    is("undo(4): none", x.undo(4), 0);
    is("undo(1)", x.undo(1), 3);
    is("as behind one", x.digest(), second);
    is("DAY", x.count(2), 1);
    is("undo(0)", x.undo(0), 1);
    is("as at first", x.digest(), first);
    told("the MEMORY, too", x, x.ass(0, 1), 6);
    is("undo(0)", x.undo(0), 0);
    is("undo(1)", x.undo(1), BAD);
    is("on again", x.day(), 1);
    is("as behind one", x.digest(), second);
    for (int d = 0; d < 4; d++) {
      x.day();
    }
    is("undo(3)", x.undo(3), 2);
    is("three DAYS are left", x.count(2), 3);
    is("without ASSES", new SmellBurdens().undo(0), 0);
    is("without ASSES", new SmellBurdens().undo(1), BAD);
  }

  private static void keepCall() {
    SmellBurdens x = Due.with(WALK);
    is("keep(0)", x.keep(0), 0);
    x.day();
    x.smear(0, 1);
    is("keep(2)", x.keep(2), 2);
    is("kept", x.count(10), 2);
    is("again there", x.keep(0), 2);
    is("kept", x.count(10), 2);
    is("keep(3)", x.keep(3), BAD);
    is("keep(-1)", x.keep(-1), BAD);
    SmellBurdens y = new SmellBurdens();
    is("no ASSES", y.keep(0), STATE);
    is("BAD first", y.keep(3), BAD);
  }

  private static void onCall() {
    SmellBurdens x = Due.with(WALK);
    x.day();
    x.smear(0, 1);
    x.keep(1);
    x.undo(0);
    x.lead(0, 3);
    is("on(1)", x.on(1), 2);
    is("DAY", x.count(2), 1);
    told("MARKS", x, x.load(0, 0), 7);
    told("INN", x, x.ass(0, 2), 1);
    is("its DEEDS are undone", x.undo(1), 1);
    told("MARKS", x, x.load(0, 0), 5);
    is("its DEEDS are undone", x.undo(0), 1);
    told("INN", x, x.ass(0, 2), 0);
    is("it is still kept", x.on(1), 2);
    x.undo(0);
    x.lead(0, 3);
    x.smear(0, 3);
    is("on(1) again", x.on(1), 2);
    is("not what was done since", x.undo(1), 1);
    told("INN", x, x.ass(0, 2), 1);
    told("MARKS", x, x.load(0, 0), 5);
    is("DAY", x.count(2), 1);
    is("on(1) again", x.on(1), 2);
    is("on(3)", x.on(3), BAD);
    is("on(-1)", x.on(-1), BAD);
    found("on(0)", x, 0, x.on(0), NOTHING);
    x.plain(0);
    found("gone", x, 1, x.on(1), NOTHING);
  }

  private static void likeCall() {
    SmellBurdens x = Due.with("n00000a050g050y050s050l0000");
    int[] marks = {0, 5, 7, 10, 15};
    int[] both = {2, 4, 3, 0, 2};
    int[] grey = {0, 2, 2, 0, 2};
    for (int n = 0; n < marks.length; n++) {
      is("ASS " + marks[n], x.like(0, marks[n]), both[n]);
      is("GREY " + marks[n], x.like(1, marks[n]), grey[n]);
      is("YOUNG " + marks[n], x.like(2, marks[n]), both[n]);
      is("STUBBORN " + marks[n], x.like(3, marks[n]), both[n]);
    }
    is("like(4, 0)", x.like(4, 0), BAD);
    is("like(-1, 0)", x.like(-1, 0), BAD);
    is("like(0, 16)", x.like(0, 16), BAD);
    is("like(0, -1)", x.like(0, -1), BAD);
    x = Due.with("n00000o070m050l0000");
    is("OLD", x.like(0, 15), 6);
    is("OLD", x.like(0, 8), 0);
    is("MULE", x.like(1, 0), 2);
  }

  private static void whoCall() {
    SmellBurdens x = Due.with("n00000a050g052s053m054l0000");
    is("who(5)", x.who(5), 15);
    is("who(7)", x.who(7), 7);
    is("who(15)", x.who(15), 3);
    is("who(0)", x.who(0), 1);
    is("who(10)", x.who(10), 0);
    is("who(16)", x.who(16), BAD);
    is("who(-1)", x.who(-1), BAD);
  }

  private static void whereCall() {
    SmellBurdens x = Due.with(WALK);
    int[] inns = {0, 1, 2, 3, 4, 4};
    for (int n = 0; n < inns.length; n++) {
      is("where(0, " + n + ")", x.where(0, n), inns[n]);
    }
    is("where(0, 60)", x.where(0, 60), 4);
    is("where(0, 61)", x.where(0, 61), BAD);
    is("where(0, -1)", x.where(0, -1), BAD);
    is("where(1, 0)", x.where(1, 0), BAD);
    is("where(-1, 0)", x.where(-1, 0), BAD);
    is("aside", x.count(2), 0);
    told("aside", x, x.load(0, 1), 0);
    x = Due.with("n10000m150l1504");
    is("to and fro", x.where(0, 59), 1);
    is("to and fro", x.where(0, 60), 0);
  }

  private static void homeCall() {
    SmellBurdens x = Due.with(WALK);
    is("home()", x.home(), 4);
    x.day();
    is("home()", x.home(), 3);
    is("aside", x.count(2), 1);
    is("never", Due.with("n10000m150l1504").home(), NONE);
    is("now", Due.with("n10000m150l1500").home(), 0);
    is("not all", Due.with("n12340a050l0504l1504").home(), NONE);
    is("both", Due.with("n12340a050a150l0504l1501").home(), 4);
    is("no ASSES", new SmellBurdens().home(), STATE);
  }

  private static void roundCall() {
    SmellBurdens x = Due.with(WALK);
    is("round()", x.round(), 5);
    is("asked()", x.asked(), 1);
    is("aside", x.count(2), 0);
    x = Due.with("n10000m150l1504");
    is("to and fro", x.round(), 2);
    is("asked()", x.asked(), 2);
    x = Due.with("n12100m150l1504");
    is("once out, then to and fro", x.round(), 3);
    is("asked()", x.asked(), 2);
    x = Due.with("n00000y150l1404");
    is("the MEMORY changes", x.round(), 2);
    is("asked()", x.asked(), 1);
    x = Due.with("n00000a150l1404");
    is("nothing changes", x.round(), 1);
    is("asked()", x.asked(), 1);
    is("no ASSES", new SmellBurdens().round(), STATE);
  }

  private static void marksCall() {
    SmellBurdens x = Due.with("n12340s150l0001");
    is("three of four", x.marks(0, 1), 3);
    is("the least number", x.asked(), 7);
    is("not today", x.marks(0, 0), NONE);
    is("asked() stays", x.asked(), 7);
    is("marks(0, 20)", x.marks(0, 20), 3);
    is("marks(0, 21)", x.marks(0, 21), BAD);
    is("marks(0, -1)", x.marks(0, -1), BAD);
    is("marks(1, 1)", x.marks(1, 1), BAD);
    is("marks(-1, 1)", x.marks(-1, 1), BAD);
    told("aside", x, x.load(0, 0), 0);
    x = Due.with("n12340s150l0600");
    is("at HOME", x.marks(0, 0), 0);
    is("asked()", x.asked(), 6);
    x = Due.with(WALK);
    is("too far", x.marks(0, 3), NONE);
    is("just there", x.marks(0, 4), 0);
    is("asked()", x.asked(), 5);
    x = Due.with("n00000m150l1504");
    is("by none", x.marks(0, 20), NONE);
    x = Due.with("n12340m150l0001");
    is("all four", x.marks(0, 1), 4);
    is("asked()", x.asked(), 15);
    x = Due.with("n12340m000l0101");
    is("to none at all", x.marks(0, 1), 1);
    is("asked()", x.asked(), 0);
    is("some DAY ahead of n", Due.with("n12340y030l0401").marks(0, 20), 0);
  }

  private static void matchCall() {
    SmellBurdens x = Due.with("n00000a150g150l0304l1504");
    is("match(1)", x.match(1), 6);
    rowIs("the first of both", x, 1, 0, 1);
    x = Due.with("n00000a150g150l1504");
    is("match(1)", x.match(1), 4);
    rowIs("NONE ahead of LOAD 0", x, 1, NONE, 0);
    x = Due.with("n00000a150o150l1504");
    is("match(1)", x.match(1), 8);
    rowIs("the OLD one", x, 1, NONE, 0);
    x = Due.with("n00000o150a150l1504l1504");
    is("match(1)", x.match(1), 12);
    rowIs("both", x, 1, 0, 1);
    // as a LINE the first would take LOAD 0 (4) and leave the mule nothing
    x = Due.with("n00000a150m150l1504l0704");
    is("match(5)", x.match(5), 7);
    rowIs("together", x, 5, 1, 0);
    x = Due.with("n00000a150l0104");
    is("LIKE by 1", x.match(1), 1);
    rowIs("LIKE by 1", x, 1, 0);
    x = Due.with("n00000a150s151m150l1500l0304l0704");
    is("match(0)", x.match(0), 3);
    rowIs("HOME, INN, REFUSED", x, 0, 2, NONE, NONE);
    x = Due.with("n00000a150a150g150o150l1504l1504l1504l1504");
    is("four", x.match(0), 20);
    rowIs("four", x, 0, 0, 1, 2, 3);
    Due.write(x, 0, "n00000a000l1504");
    x.plain(0);
    is("nothing can be given", x.match(0), 0);
    rowIs("nothing can be given", x, 0, NONE);
    is("match(6)", x.match(6), BAD);
    is("match(-1)", x.match(-1), BAD);
    is("aside", x.count(3), 0);
    SmellBurdens y = new SmellBurdens();
    is("no ASSES", y.match(0), STATE);
    is("BAD first", y.match(6), BAD);
    is("no ROW came", y.count(8), 0);
  }

  private static void lineCall() {
    SmellBurdens x = Due.with("n12340a150a150l1504l0304");
    is("line(0, 0, 3)", x.line(0, 0, 3), 1);
    rowIs("the first", x, 3, 0, 1);
    is("line(1, 0, 3)", x.line(1, 0, 3), 1);
    rowIs("the first", x, 3, 1, 0);
    is("line(0, 1, 3)", x.line(0, 1, 3), 1);
    rowIs("the first", x, 3, 1, 0);
    x = Due.with("n12340a150a150a150l1504");
    is("line(2, 0, 0)", x.line(2, 0, 0), 2);
    rowIs("by numbers", x, 0, 2, 0, 1);
    x = Due.with("n12340a150a151a152m150l1504");
    is("line(1, 0, 0)", x.line(1, 0, 0), NONE);
    is("no ROW came", x.count(8), 0);
    Due.fill(x, 0, 8);
    is("line(1, 0, 0)", x.line(1, 0, 0), NONE);
    rowIs("the ROW stays", x, 0, 8);
    is("line(3, 0, 0)", x.line(3, 0, 0), 12);
    rowIs("it is ahead of ASS 0", x, 0, 1, 2, 3, 0);
    x = Due.with("n12340a150l1504");
    is("alone", x.line(0, 0, 2), 1);
    rowIs("alone", x, 2, 0);
    is("line(1, 0, 2)", x.line(1, 0, 2), BAD);
    is("line(-1, 0, 2)", x.line(-1, 0, 2), BAD);
    is("line(0, 1, 2)", x.line(0, 1, 2), BAD);
    is("line(0, -1, 2)", x.line(0, -1, 2), BAD);
    is("line(0, 0, 6)", x.line(0, 0, 6), BAD);
    is("line(0, 0, -1)", x.line(0, 0, -1), BAD);
  }

  private static void coverCall() {
    SmellBurdens x = Due.with("n00000s150s001g012l1433l0144");
    is("cover()", x.cover(), 2);
    is("the least number", x.asked(), 3);
    x = Due.with("n00000s150a030l1433l0144");
    is("one is enough", x.cover(), 1);
    is("asked()", x.asked(), 2);
    x = Due.with("n00000s150l1433l0144");
    x.ass(0, 1);
    is("not all together", x.cover(), NONE);
    is("asked() stays", x.asked(), 15);
    x = Due.with("n00000m010m020m040m080l0100l0200l0400l0800");
    is("all four", x.cover(), 4);
    is("asked()", x.asked(), 15);
    is("no ASSES", new SmellBurdens().cover(), STATE);
  }

  /** What the three calls by a ROW of pairs refuse alike. */
  private static void pairsRefused(SmellBurdens x, int which) {
    is("BAD", pairsCall(x, which, 9, 0), BAD);
    is("BAD", pairsCall(x, which, -1, 0), BAD);
    is("BAD", pairsCall(x, which, 0, 6), BAD);
    is("BAD", pairsCall(x, which, 0, -1), BAD);
    x.tear(5);
    found("no ROW", x, x.findings(NOTHING), pairsCall(x, which, 0, 5), NOTHING);
    Due.fill(x, 5, 99, 0, 0);
    found("odd", x, x.findings(SIZE), pairsCall(x, which, 0, 5), SIZE);
    x.row(5, 18);
    found("nine pairs", x, x.findings(SIZE), pairsCall(x, which, 0, 5), SIZE);
    int[][] unlike = {{16, 0}, {-1, 0}, {0, 2}, {0, -1}, {1, 1, 0, 0, 3, 2}, {1, 1, 5, 2}, {1, 1, 16, 0}};
    for (int[] pairs : unlike) {
      Due.fill(x, 5, pairs);
      found("no such pair", x, x.findings(UNLIKE), pairsCall(x, which, 0, 5), UNLIKE);
    }
  }

  private static int pairsCall(SmellBurdens x, int which, int i, int r) {
    if (which == 0) {
      return x.memories(i, r);
    }
    return which == 1 ? x.kinds(i, r) : x.next(i, r);
  }

  private static void memoriesCall() {
    SmellBurdens x = Due.with("n00000a050g130y002m110l0000");
    x.row(0, 0);
    is("by nothing", x.memories(0, 0), 65535);
    x.row(0, 16);
    is("eight pairs: 0 REFUSED", x.memories(0, 0), 1 << 15);
    Due.fill(x, 0, 5, 1, 10, 0);
    is("ASS", x.memories(0, 0), 1 << 5);
    Due.fill(x, 0, 3, 0);
    is("GREY", x.memories(1, 0), 1 | 1 << 4 | 1 << 8 | 1 << 12);
    Due.fill(x, 0, 6, 1);
    is("MULE", x.memories(3, 0), 1 << 6);
    Due.fill(x, 0, 6, 1, 7, 1);
    is("none", x.memories(3, 0), 0);
    Due.fill(x, 0, 0, 1, 15, 0);
    is("a YOUNG one's is the same by all of these", x.memories(2, 0), 1);
    pairsRefused(x, 0);
  }

  private static void kindsCall() {
    SmellBurdens x = Due.with("n00000a050g130l0000");
    x.row(0, 0);
    is("by nothing", x.kinds(0, 0), 63);
    Due.fill(x, 0, 5, 1, 10, 0);
    is("all", x.kinds(0, 0), 63);
    Due.fill(x, 0, 7, 1, 15, 0);
    is("STUBBORN", x.kinds(0, 0), 1 << 3);
    Due.fill(x, 0, 7, 0, 5, 1);
    is("MULE", x.kinds(0, 0), 1 << 5);
    Due.fill(x, 0, 0, 0, 15, 1);
    is("GREY, OLD", x.kinds(0, 0), 1 << 1 | 1 << 4);
    Due.fill(x, 0, 0, 1);
    is("ASS, YOUNG", x.kinds(0, 0), 1 | 1 << 2);
    Due.fill(x, 0, 3, 0);
    is("STUBBORN, MULE", x.kinds(1, 0), 1 << 3 | 1 << 5);
    Due.fill(x, 0, 5, 1, 5, 0);
    is("none", x.kinds(0, 0), 0);
    pairsRefused(x, 1);
  }

  private static void nextCall() {
    SmellBurdens x = Due.with("n00000a050g130s110l0000");
    Due.fill(x, 0, 3, 0);
    is("GREY", x.next(1, 0), 4);
    is("asked()", x.asked(), 2);
    x.row(0, 0);
    is("STUBBORN", x.next(2, 0), 0);
    is("asked()", x.asked(), 11);
    is("GREY: half of them", x.next(1, 0), 1);
    is("asked()", x.asked(), 8);
    Due.fill(x, 0, 5, 1, 10, 0);
    is("one MEMORY", x.next(0, 0), 0);
    is("asked()", x.asked(), 1);
    Due.fill(x, 0, 5, 1, 5, 0);
    x.ass(0, 1);
    is("no MEMORY", x.next(0, 0), NONE);
    is("asked() stays", x.asked(), 5);
    pairsRefused(x, 2);
  }

  private static void duelCall() {
    SmellBurdens x = Due.with("n00000m151l1500");
    is("as it is", x.duel(0, 0), 1);
    is("the other one is last", x.duel(0, 1), 0);
    is("twice each", x.duel(0, 2), 0);
    x = Due.with("n00000g031l0100");
    is("as it is", x.duel(0, 0), 1);
    is("the first one helps", x.duel(0, 1), 1);
    is("twice each", x.duel(0, 2), 1);
    x = Due.with("n00000s151l0300");
    is("as it is", x.duel(0, 0), 0);
    is("what is won is lost", x.duel(0, 1), 0);
    x = Due.with("n00000a151a002g031l0300");
    is("as it is", x.duel(0, 0), 3);
    is("once each", x.duel(0, 1), 3);
    x = Due.with("n00000g011l0100");
    is("the only MARK is taken off", x.duel(0, 1), 0);
    x = Due.with("n00000m001l0000");
    is("no MARKS at all", x.duel(0, 0), 1);
    x = Due.with("n00000a001l0000");
    is("no MARKS at first", x.duel(0, 1), 1);
    is("far from what it REFUSES", x.duel(0, 2), 1);
    is("duel(0, 3)", x.duel(0, 3), BAD);
    is("duel(0, -1)", x.duel(0, -1), BAD);
    is("duel(1, 0)", x.duel(1, 0), BAD);
    is("duel(-1, 0)", x.duel(-1, 0), BAD);
    is("aside", x.count(3), 0);
    told("aside", x, x.load(0, 0), 0);
  }

  private static void oddsCall() {
    SmellBurdens x = Due.with("n00000a150a150l1504l0304l1500");
    fraction("odds(0, 6)", x, x.odds(0, 6), 3, 4);
    fraction("odds(0, 4)", x, x.odds(0, 4), 8, 9);
    fraction("odds(1, 4): both are awake", x, x.odds(1, 4), 4, 9);
    fraction("odds(0, 0)", x, x.odds(0, 0), 1, 1);
    fraction("odds(0, 12)", x, x.odds(0, 12), 0, 1);
    fraction("odds(1, 11)", x, x.odds(1, 11), 1, 144);
    fraction("odds(2, 3): at HOME", x, x.odds(2, 3), 0, 1);
    is("odds(0, 13)", x.odds(0, 13), BAD);
    is("odds(0, -1)", x.odds(0, -1), BAD);
    is("odds(3, 0)", x.odds(3, 0), BAD);
    is("odds(-1, 0)", x.odds(-1, 0), BAD);
    is("aside", x.count(3), 0);
  }

  private static void midCall() {
    SmellBurdens x = Due.with("n10000a150l1501");
    fraction("mid(3)", x, x.mid(3), 3, 4);
    fraction("mid(12)", x, x.mid(12), 0, 1);
    fraction("mid(0)", x, x.mid(0), 1, 1);
    x = Due.with("n10000a150l1501l0022");
    fraction("mid(3): one is there", x, x.mid(3), 7, 4);
    x = Due.with("n10000a150a150l1501l1501");
    fraction("mid(6)", x, x.mid(6), 1, 1);
    fraction("mid(5)", x, x.mid(5), 7, 6);
    is("mid(13)", x.mid(13), BAD);
    is("mid(-1)", x.mid(-1), BAD);
    is("aside", x.count(3), 0);
    SmellBurdens y = new SmellBurdens();
    is("no ASSES", y.mid(0), STATE);
    is("BAD first", y.mid(13), BAD);
  }

  private static void lotsCall() {
    // 48271: by 8 6033, modulo 4 1; by 64 754, modulo 5 4
    SmellBurdens x = Due.with(WALK);
    is("lots(1, 1)", x.lots(1, 1), 0);
    told("led", x, x.ass(0, 2), 4);
    // 5 * 48271 = 241355: by 8 30169, modulo 4 1; by 64 3771, modulo 5 1
    is("lots(1, 5)", x.lots(1, 5), 0);
    told("led", x, x.ass(0, 2), 1);
    x.undo(1);
    is("lots(1, 1)", x.lots(1, 1), 0);
    told("where it is", x, x.ass(0, 2), 4);
    is("that, too, is a DEED", x.count(3), 2);
    is("no DAY", x.count(2), 0);
    // 2 * 48271 = 96542: by 8 12067, modulo 4 3
    x.undo(0);
    is("lots(1, 2)", x.lots(1, 2), 0);
    is("a DAY", x.count(2), 1);
    told("gone", x, x.ass(0, 2), 1);
    // 10 * 48271 = 482710: by 8 60338, modulo 4 2
    is("lots(1, 10)", x.lots(1, 10), 0);
    is("a DAY", x.count(2), 2);
    // 9 * 48271 = 434439: by 8 54304, modulo 4 0; by 64 6788, modulo 4 0
    is("lots(1, 9)", x.lots(1, 9), 0);
    told("smeared", x, x.load(0, 0), 4);
    is("DEEDS", x.count(3), 3);
    // the second lot of 1: 48271 * 48271 modulo 2147483647 = 182605794, by 8 22825724, modulo 4 0;
    // by 64 2853215, modulo 4 3
    x = Due.with(WALK);
    is("lots(2, 1)", x.lots(2, 1), 0);
    told("led, then smeared", x, x.load(0, 0), 13);
    told("led, then smeared", x, x.ass(0, 2), 4);
    is("by its one DEED", x.undo(1), 1);
    told("undone", x, x.load(0, 0), 5);
    // MARK 0 of LOAD 434439 modulo 2 = 1, ASS 48271 modulo 2 = 1
    x = Due.with("n12340a050a050l0504l0504");
    x.lots(1, 9);
    told("LOAD 1", x, x.load(1, 0), 4);
    x.lots(1, 1);
    told("ASS 1", x, x.ass(1, 2), 4);
    told("not ASS 0", x, x.ass(0, 2), 0);
    is("home by it", Due.with("n10000a050l0501").lots(1, 2), 1);
    is("lots(0, 1)", x.lots(0, 1), BAD);
    is("lots(21, 1)", x.lots(21, 1), BAD);
    is("lots(1, 0)", x.lots(1, 0), BAD);
    is("lots(1, -1)", x.lots(1, -1), BAD);
    is("lots(1, most)", x.lots(1, Integer.MAX_VALUE), BAD);
    is("DEEDS", x.count(3), 2);
    is("lots(18, most - 1)", x.lots(18, Integer.MAX_VALUE - 1) >= 0 ? 1 : 0, 1);
    is("DEEDS", x.count(3), 20);
    is("lots(20, 3)", x.lots(20, 3) >= 0 ? 1 : 0, 1);
    is("DEEDS", x.count(3), 40);
    is("FULL", x.lots(1, 3), FULL);
    x.undo(39);
    is("FULL", x.lots(2, 3), FULL);
    is("nothing was done", x.count(3), 39);
    is("BAD first", x.lots(21, 3), BAD);
    SmellBurdens y = new SmellBurdens();
    is("no ASSES", y.lots(1, 1), STATE);
    is("BAD first", y.lots(1, 0), BAD);
  }

  private static void askedCall() {
    SmellBurdens x = Due.with(WALK);
    is("plain(), put() tell nothing", x.asked(), 0);
    Due.fill(x, 0, 6, 7);
    told("at(0, 1)", x, x.at(0, 1), 7);
    x.at(0, 2);
    x.mean(3);
    x.ass(0, 4);
    x.load(1, 0);
    x.marks(0, 0);
    is("refused, NONE", x.asked(), 7);
    x.who(1);
    x.match(1);
    x.line(0, 0, 1);
    x.count(5);
    x.home();
    x.digest();
    x.odds(0, 1);
    is("others tell nothing", x.asked(), 7);
    told("ass(0, 3)", x, x.ass(0, 3), 0);
    x.lead(0, 1);
    told("none is told, too", x, x.ass(0, 3), NONE);
  }

  private static void upperCall() {
    SmellBurdens x = Due.with("n10000a150l1501");
    is("before", x.upper(), 0);
    x.odds(0, 3);
    is("odds()", x.upper(), 3);
    x.odds(1, 3);
    x.mid(13);
    is("refused", x.upper(), 3);
    x.mid(7);
    is("mid()", x.upper(), 5);
    x.mid(12);
    is("0 by 1", x.upper(), 0);
  }

  private static void lowerCall() {
    SmellBurdens x = Due.with("n10000a150l1501");
    is("before", x.lower(), 1);
    x.odds(0, 3);
    is("odds()", x.lower(), 4);
    x.odds(1, 3);
    x.mid(13);
    is("refused", x.lower(), 4);
    x.mid(7);
    is("mid()", x.lower(), 12);
    x.mid(12);
    is("0 by 1", x.lower(), 1);
  }

  private static void countCall() {
    SmellBurdens x = Due.with("n04321o010g020m030s040l0101l0022l0033");
    x.row(0, 0);
    x.row(3, 1);
    x.text(2, 0);
    x.smear(0, 0);
    x.day();
    x.keep(1);
    int[] want = {4, 3, 1, 2, 6, 4321, 2, 2, 2, 2, 1};
    for (int what = 0; what < want.length; what++) {
      is("count(" + what + ")", x.count(what), want[what]);
    }
    is("count(11)", x.count(11), BAD);
    is("count(-1)", x.count(-1), BAD);
    x = Due.with("n43210a010y020l0110l0122");
    is("no GREYS", x.count(6), 0);
    is("no STUBBORN ones", x.count(7), 0);
    is("at HOME", x.count(4), 2);
    is("ROADS", x.count(5), 43210);
  }

  private static void findingCall() {
    SmellBurdens x = new SmellBurdens();
    is("before", x.finding(), 0);
    x.row(0, -1);
    is("SIZE", x.finding(), SIZE);
    x.row(0, 0);
    is("it stays", x.finding(), SIZE);
    x.mean(0);
    is("NOUGHT", x.finding(), NOUGHT);
    x.at(0, 0);
    is("BEYOND", x.finding(), BEYOND);
    x.at(1, 0);
    is("NOTHING", x.finding(), NOTHING);
    x.at(9, 0);
    x.day();
    is("BAD, STATE are none", x.finding(), NOTHING);
    x = Due.with(WALK);
    x.mark(0, 1);
    is("UNLIKE", x.finding(), UNLIKE);
  }

  private static void findingsCall() {
    SmellBurdens x = Due.with(WALK);
    x.row(0, -1);
    x.row(0, -1);
    x.tear(0);
    x.mark(0, 1);
    x.row(1, 0);
    x.mean(1);
    x.at(1, 0);
    x.at(1, 0);
    x.at(1, 0);
    int[] want = {1, 3, 1, 1, 2};
    for (int f = 1; f <= 5; f++) {
      is("findings(" + f + ")", x.findings(f), want[f - 1]);
    }
    is("findings(0)", x.findings(0), BAD);
    is("findings(6)", x.findings(6), BAD);
    is("findings(-1)", x.findings(-1), BAD);
  }

  private static long mixed(long h, long... values) {
    for (long v : values) {
      h = 31 * h + v;
    }
    return h;
  }

  private static void digestCall() {
    long empty = mixed(17, 0, 0, 0, 0, 0, 0, 0, 0, 0, 0, 0);
    empty = mixed(empty, -1, -1, -1);
    empty = mixed(empty, -1, -1, -1, -1, -1, -1);
    empty = mixed(empty, -1, -1, -1, -1);
    is("of a new one", new SmellBurdens().digest(), empty);

    SmellBurdens x = Due.with(WALK);
    x.keep(2);
    x.day();
    x.keep(1);
    Due.fill(x, 1, 7, -8);
    x.text(0, 0);
    x.text(3, 2);
    x.put(3, 1, -1);
    x.at(1, 0);
    long h = mixed(17, 1, 1, 1, 1, 0, 12340, 0, 0, 1, 2, 2);
    h = mixed(h, 0, 5, 1, 0);
    h = mixed(h, 5, 1, 4, 0, 0);
    h = mixed(h, -1, 1, 0);
    h = mixed(h, -1, 2, 7, -8, -1, -1, -1, -1);
    h = mixed(h, 0, -1, -1, 2, 32, -1);
    is("digest()", x.digest(), h);
    is("asked() stays", x.asked(), 7);
    is("it tells the same", x.digest(), h);
  }
}
