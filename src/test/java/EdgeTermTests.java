import java.util.function.IntSupplier;

/** The sentences of the document that bind all calls: what is refused, FINDINGS, sets, 512 calls. */
final class EdgeTermTests {
  private static final String MARKET = "n12340a050g130y002s110 l0504l0701l1202l1500l0331";

  public static void main(String[] args) throws Exception {
    Edge.run(EdgeTermTests.class);
  }

  @Holds(promise = 0, words = "BAD -1 (a number that is none, or not as told), FULL -2, STATE -4 (not now), "
      + "SPENT -6 (more than told), FINDING -3 (finding() tells which), unless a call says so otherwise.")
  static void whatIsRefusedHasItsNumber() {
    Edge.is("BAD", SmellBurdens.BAD, -1);
    Edge.is("FULL", SmellBurdens.FULL, -2);
    Edge.is("FINDING", SmellBurdens.FINDING, -3);
    Edge.is("STATE", SmellBurdens.STATE, -4);
    Edge.is("SPENT", SmellBurdens.SPENT, -6);
    Edge.is("NONE", SmellBurdens.NONE, -9);
    SmellBurdens x = Edge.full(Edge.WALK);
    Edge.is("BAD", x.row(6, 0), -1);
    Edge.is("FULL", x.day(), -2);
    Edge.is("FINDING", x.tear(0), -3);
    Edge.is("STATE", x.lead(0, 4), -4);
    Edge.is("NONE", x.cover() == 1 ? x.line(0, 0, 0) : 0, -9);
  }

  @Holds(promise = 0, words = "Refused is, the first of these that fits, in this order")
  static void badIsAheadOfFull() {
    SmellBurdens x = Edge.full(MARKET);
    Edge.still("smear(5, 0)", x, Edge.BAD, () -> x.smear(5, 0));
    Edge.still("smear(0, 4)", x, Edge.BAD, () -> x.smear(0, 4));
    Edge.still("lead(4, 0)", x, Edge.BAD, () -> x.lead(4, 0));
    Edge.still("lead(0, 5)", x, Edge.BAD, () -> x.lead(0, 5));
    Edge.still("lots(21, 1)", x, Edge.BAD, () -> x.lots(21, 1));
    Edge.still("lots(1, 0)", x, Edge.BAD, () -> x.lots(1, 0));
  }

  @Holds(promise = 0, words = "Refused is, the first of these that fits, in this order")
  static void badIsAheadOfState() {
    SmellBurdens x = new SmellBurdens();
    Edge.still("keep(3)", x, Edge.BAD, () -> x.keep(3));
    Edge.still("keep(-1)", x, Edge.BAD, () -> x.keep(-1));
    Edge.still("match(6)", x, Edge.BAD, () -> x.match(6));
    Edge.still("match(-1)", x, Edge.BAD, () -> x.match(-1));
    Edge.still("mid(13)", x, Edge.BAD, () -> x.mid(13));
    Edge.still("mid(-1)", x, Edge.BAD, () -> x.mid(-1));
    Edge.still("lots(0, 1)", x, Edge.BAD, () -> x.lots(0, 1));
    Edge.still("lots(1, 2147483647)", x, Edge.BAD, () -> x.lots(1, Edge.MOST));
    Edge.still("plain(4) of no TEXT", x, Edge.BAD, () -> x.plain(4));
  }

  @Holds(promise = 0, words = "Refused is, the first of these that fits, in this order")
  static void badIsAheadOfFinding() {
    SmellBurdens x = Due.with(Edge.WALK);
    Edge.still("row(6, -1)", x, Edge.BAD, () -> x.row(6, -1));
    Edge.still("lay(6, -1, 0)", x, Edge.BAD, () -> x.lay(6, -1, 0));
    Edge.still("at(-1, -1)", x, Edge.BAD, () -> x.at(-1, -1));
    Edge.still("copy(6, 0, 0, 0, -1)", x, Edge.BAD, () -> x.copy(6, 0, 0, 0, -1));
    Edge.still("copy(0, 0, 6, 0, -1)", x, Edge.BAD, () -> x.copy(0, 0, 6, 0, -1));
    Edge.still("text(4, -1)", x, Edge.BAD, () -> x.text(4, -1));
    Edge.still("put(4, -1, 0)", x, Edge.BAD, () -> x.put(4, -1, 0));
    Edge.still("mark(1, 1)", x, Edge.BAD, () -> x.mark(1, 1));
    Edge.still("mark(0, 0)", x, Edge.BAD, () -> x.mark(0, 0));
    Edge.still("memories(1, 0) of no ROW", x, Edge.BAD, () -> x.memories(1, 0));
    Edge.still("kinds(1, 0) of no ROW", x, Edge.BAD, () -> x.kinds(1, 0));
    Edge.still("next(1, 0) of no ROW", x, Edge.BAD, () -> x.next(1, 0));
  }

  @Holds(promise = 0, words = "NONE -9 (as an answer: a ROW that would come anew stays).")
  static void aRowStaysByNone() {
    SmellBurdens x = Due.with("n00000m150l0004");
    Edge.still("line() into a ROW that is missing", x, Edge.NONE, () -> x.line(0, 0, 5));
    Edge.is("no ROW came", x.count(8), 0);
    Due.fill(x, 5, 8, 9);
    Edge.still("line() into a ROW that is there", x, Edge.NONE, () -> x.line(0, 0, 5));
    Edge.rowIs("it stays", x, 5, 8, 9);
  }

  /** Every call that can be refused, refused by what fits in the state of Edge.rich(). */
  private static void refuseAll(SmellBurdens x) {
    IntSupplier[] bad = {() -> x.row(6, 1), () -> x.row(0, 41), () -> x.lay(6, 0, 1), () -> x.at(6, 0),
      () -> x.tear(6), () -> x.copy(0, 0, 6, 0, 1), () -> x.mean(6), () -> x.text(4, 1),
      () -> x.text(2, 61), () -> x.put(4, 0, 1), () -> x.fault(4), () -> x.plain(4), () -> x.ass(4, 0),
      () -> x.load(5, 0), () -> x.mark(0, 0), () -> x.smear(5, 0), () -> x.lead(4, 0),
      () -> x.undo(5), () -> x.keep(3), () -> x.on(3), () -> x.like(0, 16), () -> x.who(16),
      () -> x.where(0, 61), () -> x.marks(0, 21), () -> x.match(6), () -> x.line(0, 0, 6),
      () -> x.memories(4, 0), () -> x.kinds(4, 0), () -> x.next(4, 0), () -> x.duel(0, 3),
      () -> x.odds(0, 13), () -> x.mid(13), () -> x.lots(21, 1), () -> x.count(11), () -> x.findings(6)};
    for (int n = 0; n < bad.length; n++) {
      Edge.is("BAD call " + n, bad[n].getAsInt(), Edge.BAD);
    }
    Edge.is("plain() of blanks alone", x.plain(2), Edge.STATE);
    Edge.is("lead() to where it is", x.lead(3, 4), Edge.STATE);
    IntSupplier[] finding = {() -> x.row(0, -1), () -> x.lay(1, 0, 1), () -> x.lay(0, 3, 1),
      () -> x.at(1, 0), () -> x.at(0, 3), () -> x.tear(1), () -> x.copy(0, 0, 0, 0, -1),
      () -> x.copy(0, 0, 1, 0, 1), () -> x.copy(0, 0, 0, 1, 3), () -> x.mean(1), () -> x.mean(4),
      () -> x.text(2, -1), () -> x.put(1, 0, 1), () -> x.put(2, 3, 1), () -> x.fault(1),
      () -> x.plain(1), () -> x.mark(0, 1), () -> x.on(2), () -> x.memories(0, 1),
      () -> x.memories(0, 0), () -> x.kinds(0, 1), () -> x.kinds(0, 0), () -> x.next(0, 1),
      () -> x.next(0, 0)};
    for (int n = 0; n < finding.length; n++) {
      Edge.is("FINDING call " + n, finding[n].getAsInt(), Edge.FINDING);
    }
  }

  @Holds(promise = 0, words = "What is refused changes nothing but finding(), findings().")
  static void whatIsRefusedChangesNothing() {
    SmellBurdens x = Edge.rich();
    long digest = x.digest();
    refuseAll(x);
    Edge.is("digest()", x.digest(), digest);
    Edge.is("asked()", x.asked(), -6);
    Edge.is("upper()", x.upper(), Edge.rich().upper());
    Edge.is("lower()", x.lower(), Edge.rich().lower());
    Edge.asUntouched("refused", x, Edge::rich);
  }

  @Holds(promise = 0, words = "What is refused changes nothing but finding(), findings().")
  static void whatIsFullChangesNothing() {
    SmellBurdens x = Edge.full(MARKET);
    x.keep(1);
    Edge.still("day()", x, Edge.FULL, x::day);
    Edge.still("smear(0, 0)", x, Edge.FULL, () -> x.smear(0, 0));
    Edge.still("lead(3, 4)", x, Edge.FULL, () -> x.lead(3, 4));
    Edge.still("lots(1, 1)", x, Edge.FULL, () -> x.lots(1, 1));
    Edge.is("the DEEDS are those", x.undo(0), 40);
    Edge.is("the PLAIN is that", x.digest(), keptFresh());
  }

  private static long keptFresh() {
    SmellBurdens x = Edge.full(MARKET);
    x.keep(1);
    x.undo(0);
    return x.digest();
  }

  @Holds(promise = 0, words = "What is refused changes nothing but finding(), findings().")
  static void whatIsRefusedWithoutAssesChangesNothing() {
    SmellBurdens x = new SmellBurdens();
    Due.fill(x, 0, 4);
    Edge.still("day()", x, Edge.STATE, x::day);
    Edge.still("keep(0)", x, Edge.STATE, () -> x.keep(0));
    Edge.still("home()", x, Edge.STATE, x::home);
    Edge.still("round()", x, Edge.STATE, x::round);
    Edge.still("match(0)", x, Edge.STATE, () -> x.match(0));
    Edge.still("cover()", x, Edge.STATE, x::cover);
    Edge.still("mid(0)", x, Edge.STATE, () -> x.mid(0));
    Edge.still("lots(1, 1)", x, Edge.STATE, () -> x.lots(1, 1));
  }

  @Holds(promise = 0, words = "FINDINGS: 1 NOTHING (a ROW, a TEXT, a kept PLAIN that is missing),")
  static void nothingIsWhatIsMissing() {
    SmellBurdens x = Due.with(Edge.WALK);
    Edge.found("at() of a ROW", x, 1, () -> x.at(0, 0));
    Edge.found("fault() of a TEXT", x, 1, () -> x.fault(1));
    Edge.found("on() of a kept PLAIN", x, 1, () -> x.on(0));
  }

  @Holds(promise = 0, words = "2 BEYOND (a place of a ROW, a TEXT that there is not),")
  static void beyondIsAPlaceThatThereIsNot() {
    SmellBurdens x = new SmellBurdens();
    x.row(0, 0);
    x.text(0, 0);
    Edge.found("at() of a ROW", x, 2, () -> x.at(0, 0));
    Edge.found("put() of a TEXT", x, 2, () -> x.put(0, 0, 1));
  }

  @Holds(promise = 0, words = "3 UNLIKE (an ASS of another KIND; a number that is none),")
  static void unlikeIsAnotherKindOrNoSuchNumber() {
    SmellBurdens x = Due.with(Edge.WALK);
    Edge.found("mark() of another KIND", x, 3, () -> x.mark(0, 2));
    Due.fill(x, 0, 16, 0);
    Edge.found("memories() by a number that is none", x, 3, () -> x.memories(0, 0));
  }

  @Holds(promise = 0, words = "4 NOUGHT (shared among none),")
  static void noughtIsSharedAmongNone() {
    SmellBurdens x = new SmellBurdens();
    x.row(0, 0);
    Edge.found("mean() of none", x, 4, () -> x.mean(0));
  }

  @Holds(promise = 0, words = "5 SIZE (fewer than none; too many, not as many as due).")
  static void sizeIsTooFewTooManyNotAsDue() {
    SmellBurdens x = Due.with(Edge.WALK);
    Edge.found("row() of fewer than none", x, 5, () -> x.row(0, -1));
    x.row(0, 18);
    Edge.found("kinds() by too many", x, 5, () -> x.kinds(0, 0));
    x.row(0, 1);
    Edge.found("kinds() by not as many as due", x, 5, () -> x.kinds(0, 0));
  }

  @Holds(promise = 0, words = "Sets (of ASSES, of LOADS, of KINDS, of MARKS 0 .. 3, of MEMORIES 0 .. 15) are told by bits.")
  static void setsAreToldByBits() {
    SmellBurdens x = Due.with("n00000g010g020g040g080l0011l0022l0033l0044l0001");
    for (int i = 0; i < 4; i++) {
      Edge.is("the ASS of MARK " + i, x.who(1 << i), 1 << i);
    }
    Edge.is("all ASSES", x.who(15), 15);
    Edge.is("no ASSES", x.who(0), 0);
    Edge.is("LOADS 0 to 3", x.count(4), 15);
    Edge.is("only LOAD 4 isn't", Due.with("n00000a000l0001l0001l0001l0001l0044").count(4), 16);
    for (int k = 0; k < 4; k++) {
      Edge.is("MARKS up to " + k, x.smear(0, k), (2 << k) - 1);
    }
    x.row(0, 0);
    Edge.is("all KINDS", x.kinds(0, 0), 63);
    Edge.is("all MEMORIES", x.memories(0, 0), 65535);
  }

  @Holds(promise = 0, words = "An object is used for at most 512 calls after it has been made; what later calls answer is free.")
  static void theLastOf512CallsAnswersStill() {
    SmellBurdens x = new SmellBurdens();
    for (int call = 1; call < 512; call++) {
      Edge.is("call " + call, x.tear(0), Edge.FINDING);
    }
    Edge.is("call 512", x.findings(1), 511);
  }

  @Holds(promise = 0, words = "An object is used for at most 512 calls after it has been made; what later calls answer is free.")
  static void deedsDoneAndUndoneFor512Calls() {
    SmellBurdens x = Due.with(Edge.WALK);
    int calls = 2 + Edge.WALK.length();
    long first = x.digest();
    calls++;
    while (calls + 42 <= 512) {
      for (int d = 0; d < 40; d++) {
        x.smear(0, d % 3);
      }
      Edge.is("undo(0) behind " + calls, x.undo(0), 40);
      calls += 41;
    }
    Edge.is("the last call", x.digest(), first);
  }
}
