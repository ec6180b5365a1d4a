/**
 * Burdens are chosen by smell: asses of kinds, loads, inns and their roads, as ../shared/DOC.md
 * tells. This class looks at what it is handed, refuses what the document refuses and keeps what is
 * told; the classes inside it do the rest.
 */
public final class SmellBurdens {
  public static final int BAD = -1, FULL = -2, FINDING = -3, STATE = -4, SPENT = -6, NONE = -9;

  private static final int NOTHING = 1, BEYOND = 2, UNLIKE = 3, NOUGHT = 4, SIZE = 5;
  private static final int FINE = 0;
  private static final int MISSING = -1;
  private static final int ROWS = 6, MOST_INTS = 40, TEXTS = 4, MOST_BYTES = 60, BLANK = 32;
  private static final int INNS = 5, MOST_ASSES = 4, MOST_LOADS = 5, MARKS = 4, SETS = 16;
  private static final int MOST_DEEDS = 40, KEEPS = 3, FAR = 60, NEAR = 20;
  private static final int MOST_TURNS = 2, MOST_LOTS = 20, TWELVE = 12, COUNTS = 11;
  private static final int MOST_PAIRS = 8;
  private static final long LOT_BY = 48271L, LOT_MODULO = 2147483647L;

  private final Shelf rows = new Shelf(ROWS, MOST_INTS);
  private final Shelf texts = new Shelf(TEXTS, MOST_BYTES);
  private final Reader reader = new Reader();
  private final Plain plain = new Plain();
  private final Deeds deeds = new Deeds();
  private final Deeds[] kept = new Deeds[KEEPS];
  private final Foresight foresight = new Foresight();
  private final Wall wall = new Wall();
  private final Chances chances = new Chances();
  private final int[] findingCounts = new int[SIZE + 1];
  private int latestFinding;
  private int told;

  public SmellBurdens() {
    deeds.begin(0L);
    for (int k = 0; k < kept.length; k++) {
      kept[k] = new Deeds();
    }
  }

  // ---- 1 rows, texts, plains

  public int row(int r, int n) {
    if (!rows.isNumber(r) || n > MOST_INTS) {
      return BAD;
    }
    if (n < 0) {
      return refuse(SIZE);
    }
    rows.renew(r, n, 0);
    return n;
  }

  public int lay(int r, int i, int v) {
    if (!rows.isNumber(r)) {
      return BAD;
    }
    int wrong = rows.wrongPlace(r, i);
    if (wrong != FINE) {
      return refuse(wrong);
    }
    return tell(rows.swap(r, i, v));
  }

  public int at(int r, int i) {
    if (!rows.isNumber(r)) {
      return BAD;
    }
    int wrong = rows.wrongPlace(r, i);
    if (wrong != FINE) {
      return refuse(wrong);
    }
    return tell(rows.get(r, i));
  }

  public int tear(int r) {
    if (!rows.isNumber(r)) {
      return BAD;
    }
    if (!rows.isThere(r)) {
      return refuse(NOTHING);
    }
    rows.drop(r);
    return 1;
  }

  public int copy(int r, int i, int to, int j, int n) {
    if (!rows.isNumber(r) || !rows.isNumber(to)) {
      return BAD;
    }
    if (n < 0) {
      return refuse(SIZE);
    }
    if (!rows.isThere(r) || !rows.isThere(to)) {
      return refuse(NOTHING);
    }
    if (!rows.holds(r, i, n) || !rows.holds(to, j, n)) {
      return refuse(BEYOND);
    }
    rows.move(r, i, to, j, n);
    return 1;
  }

  public int mean(int r) {
    if (!rows.isNumber(r)) {
      return BAD;
    }
    if (!rows.isThere(r)) {
      return refuse(NOTHING);
    }
    int size = rows.sizeOf(r);
    if (size <= 0) {
      return refuse(NOUGHT);
    }
    return tell((int) (rows.sumOf(r) / size));
  }

  public int text(int t, int n) {
    if (!texts.isNumber(t) || n > MOST_BYTES) {
      return BAD;
    }
    if (n < 0) {
      return refuse(SIZE);
    }
    texts.renew(t, n, BLANK);
    return n;
  }

  public int put(int t, int i, int v) {
    if (!texts.isNumber(t)) {
      return BAD;
    }
    int wrong = texts.wrongPlace(t, i);
    if (wrong != FINE) {
      return refuse(wrong);
    }
    return 1000 + texts.swap(t, i, (byte) v);
  }

  public int fault(int t) {
    if (!texts.isNumber(t)) {
      return BAD;
    }
    if (!texts.isThere(t)) {
      return refuse(NOTHING);
    }
    return reader.read(texts, t);
  }

  public int plain(int t) {
    if (!texts.isNumber(t)) {
      return BAD;
    }
    if (!texts.isThere(t)) {
      return refuse(NOTHING);
    }
    if (reader.read(texts, t) != NONE) {
      return STATE;
    }
    plain.become(reader.draft);
    deeds.begin(reader.state);
    for (int k = 0; k < KEEPS; k++) {
      Deeds old = keptAt(k);
      if (old != null) {
        old.drop();
      }
    }
    return plain.loads;
  }

  public int ass(int i, int what) {
    if (!plain.isAss(i) || what < 0 || what > 3) {
      return BAD;
    }
    return tell(ofAss(i, what));
  }

  public int load(int l, int what) {
    if (!plain.isLoad(l) || what < 0 || what > 4) {
      return BAD;
    }
    return tell(ofLoad(l, what));
  }

  public int mark(int i, int kind) {
    if (!plain.isAss(i) || kind <= Kind.ASS || kind >= Kind.HOW_MANY) {
      return BAD;
    }
    if (!Kind.isA(plain.kindOf(i), kind)) {
      return refuse(UNLIKE);
    }
    long state = deeds.now;
    switch (kind) {
      case Kind.GREY:
        return Integer.bitCount(Scene.memoryOf(state, i));
      case Kind.YOUNG:
        return plain.loadsLikeMemory(state, i);
      case Kind.STUBBORN:
        return plain.loadsRefused(state, i);
      case Kind.OLD:
        return plain.mostLikeness(state, i);
      default:
        return Kind.leastLike(kind);
    }
  }

  // ---- 2 deeds

  public int day() {
    if (plain.asses == 0) {
      return STATE;
    }
    if (!deeds.hasRoomFor(1)) {
      return FULL;
    }
    return doDay();
  }

  public int smear(int l, int k) {
    if (!plain.isLoad(l) || k < 0 || k >= MARKS) {
      return BAD;
    }
    if (!deeds.hasRoomFor(1)) {
      return FULL;
    }
    doSmear(l, k);
    return Scene.marksOf(deeds.now, l);
  }

  public int lead(int i, int inn) {
    if (!plain.isAss(i) || inn < 0 || inn >= INNS) {
      return BAD;
    }
    int from = Scene.innOf(deeds.now, i);
    if (from == inn) {
      return STATE;
    }
    if (!deeds.hasRoomFor(1)) {
      return FULL;
    }
    doLead(i, inn);
    return from;
  }

  public int undo(int n) {
    if (n < 0 || n > deeds.size) {
      return BAD;
    }
    return deeds.takeBack(n);
  }

  public int keep(int k) {
    Deeds to = keptAt(k);
    if (to == null) {
      return BAD;
    }
    if (plain.asses == 0) {
      return STATE;
    }
    to.become(deeds);
    return to.size;
  }

  public int on(int k) {
    Deeds from = keptAt(k);
    if (from == null) {
      return BAD;
    }
    if (from.isMissing()) {
      return refuse(NOTHING);
    }
    deeds.become(from);
    return deeds.size;
  }

  // ---- 3 likeness

  public int like(int i, int marks) {
    if (!plain.isAss(i) || !isSet(marks)) {
      return BAD;
    }
    return plain.likeness(deeds.now, i, marks);
  }

  public int who(int marks) {
    if (!isSet(marks)) {
      return BAD;
    }
    return plain.takersOf(deeds.now, marks);
  }

  // ---- 4 days to come

  public int where(int l, int n) {
    if (!plain.isLoad(l) || n < 0 || n > FAR) {
      return BAD;
    }
    return Scene.placeOf(Foresight.behindDays(plain, deeds.now, n), l);
  }

  public int home() {
    if (plain.asses == 0) {
      return STATE;
    }
    return Foresight.daysToHomes(plain, deeds.now);
  }

  public int round() {
    if (plain.asses == 0) {
      return STATE;
    }
    int n = foresight.firstAgain(plain, deeds.now);
    if (n != NONE) {
      tell(foresight.daysSince(n));
    }
    return n;
  }

  public int marks(int l, int n) {
    if (!plain.isLoad(l) || n < 0 || n > NEAR) {
      return BAD;
    }
    long state = deeds.now;
    int best = Foresight.marksToHome(plain, state, l, n);
    if (best == NONE) {
      return NONE;
    }
    tell(best);
    return Integer.bitCount(best ^ Scene.marksOf(state, l));
  }

  // ---- 5 the wall

  public int match(int r) {
    if (!rows.isNumber(r)) {
      return BAD;
    }
    if (plain.asses == 0) {
      return STATE;
    }
    wall.weigh(plain, deeds.now);
    rows.renew(r, plain.asses, NONE);
    wall.giveOut(plain, deeds.now, rows, r);
    return wall.most();
  }

  public int line(int i, int l, int r) {
    if (!plain.isAss(i) || !plain.isLoad(l) || !rows.isNumber(r)) {
      return BAD;
    }
    int first = Wall.firstOrder(plain, deeds.now, i, l);
    if (first == NONE) {
      return NONE;
    }
    rows.renew(r, plain.asses, 0);
    for (int p = 0; p < plain.asses; p++) {
      rows.swap(r, p, Plain.assInLine(first, p));
    }
    return Wall.howManyOrders(plain, deeds.now, i, l);
  }

  public int cover() {
    if (plain.asses == 0) {
      return STATE;
    }
    int fewest = Wall.fewestForAll(plain, deeds.now);
    if (fewest == NONE) {
      return NONE;
    }
    tell(fewest);
    return Integer.bitCount(fewest);
  }

  // ---- 6 by what it took

  public int memories(int i, int r) {
    if (!plain.isAss(i) || !rows.isNumber(r)) {
      return BAD;
    }
    int wrong = Guess.wrongPairs(rows, r);
    if (wrong != FINE) {
      return refuse(wrong);
    }
    return Guess.memoriesBy(rows, r, plain.kindOf(i));
  }

  public int kinds(int i, int r) {
    if (!plain.isAss(i) || !rows.isNumber(r)) {
      return BAD;
    }
    int wrong = Guess.wrongPairs(rows, r);
    if (wrong != FINE) {
      return refuse(wrong);
    }
    return Guess.kindsBy(rows, r, Scene.memoryOf(deeds.now, i));
  }

  public int next(int i, int r) {
    if (!plain.isAss(i) || !rows.isNumber(r)) {
      return BAD;
    }
    int wrong = Guess.wrongPairs(rows, r);
    if (wrong != FINE) {
      return refuse(wrong);
    }
    int kind = plain.kindOf(i);
    int possible = Guess.memoriesBy(rows, r, kind);
    if (possible == 0) {
      return NONE;
    }
    int best = Guess.tellingMarks(kind, possible);
    tell(Guess.greaterPart(kind, possible, best));
    return best;
  }

  // ---- 7 by turns

  public int duel(int l, int n) {
    if (!plain.isLoad(l) || n < 0 || n > MOST_TURNS) {
      return BAD;
    }
    return Wall.takersByTurns(plain, deeds.now, l, n);
  }

  // ---- 8 chances, lots

  public int odds(int l, int p) {
    if (!plain.isLoad(l) || p < 0 || p > TWELVE) {
      return BAD;
    }
    chances.ofTaking(plain, deeds.now, l, p);
    return 1;
  }

  public int mid(int p) {
    if (p < 0 || p > TWELVE) {
      return BAD;
    }
    if (plain.asses == 0) {
      return STATE;
    }
    chances.ofHomes(plain, deeds.now, p);
    return 1;
  }

  public int lots(int n, int seed) {
    if (n < 1 || n > MOST_LOTS || seed < 1 || seed >= LOT_MODULO) {
      return BAD;
    }
    if (plain.asses == 0) {
      return STATE;
    }
    if (!deeds.hasRoomFor(n)) {
      return FULL;
    }
    long lot = seed;
    for (int d = 0; d < n; d++) {
      lot = lot * LOT_BY % LOT_MODULO;
      doByLot(lot);
    }
    return Integer.bitCount(plain.atHomes(deeds.now));
  }

  // ---- 9 what is told

  public int asked() {
    return told;
  }

  public long upper() {
    return chances.over;
  }

  public long lower() {
    return chances.under;
  }

  public int count(int what) {
    switch (what) {
      case 0:
        return plain.asses;
      case 1:
        return plain.loads;
      case 2:
        return deeds.howManyDays();
      case 3:
        return deeds.size;
      case 4:
        return plain.atHomes(deeds.now);
      case 5:
        return plain.roadsAsNumber();
      case 6:
        return plain.howManyAre(Kind.GREY);
      case 7:
        return plain.howManyAre(Kind.STUBBORN);
      case 8:
        return rows.howManyThere();
      case 9:
        return texts.howManyThere();
      case 10:
        return howManyKept();
      default:
        return BAD;
    }
  }

  public int finding() {
    return latestFinding;
  }

  public int findings(int f) {
    if (f < NOTHING || f >= findingCounts.length) {
      return BAD;
    }
    return findingCounts[f];
  }

  public long digest() {
    long h = 17L;
    for (int what = 0; what < COUNTS; what++) {
      h = 31L * h + count(what);
    }
    for (int i = 0; i < plain.asses; i++) {
      for (int what = 0; what <= 3; what++) {
        h = 31L * h + ofAss(i, what);
      }
    }
    for (int l = 0; l < plain.loads; l++) {
      for (int what = 0; what <= 4; what++) {
        h = 31L * h + ofLoad(l, what);
      }
    }
    for (int k = 0; k < KEEPS; k++) {
      h = 31L * h + keptSize(k);
    }
    return texts.mixedInto(rows.mixedInto(h));
  }

  // ---- within

  private int refuse(int what) {
    if (what >= 0 && what < findingCounts.length) {
      latestFinding = what;
      findingCounts[what]++;
    }
    return FINDING;
  }

  private int tell(int what) {
    told = what;
    return 1;
  }

  private static boolean isSet(int marks) {
    return marks >= 0 && marks < SETS;
  }

  /** A place for a kept PLAIN; null: there is no such place. */
  private Deeds keptAt(int k) {
    return k >= 0 && k < kept.length ? kept[k] : null;
  }

  private int keptSize(int k) {
    Deeds old = keptAt(k);
    return old == null ? MISSING : old.size;
  }

  private int howManyKept() {
    int n = 0;
    for (int k = 0; k < KEEPS; k++) {
      n += keptSize(k) == MISSING ? 0 : 1;
    }
    return n;
  }

  private int ofAss(int i, int what) {
    long state = deeds.now;
    switch (what) {
      case 0:
        return plain.kindOf(i);
      case 1:
        return Scene.memoryOf(state, i);
      case 2:
        return Scene.innOf(state, i);
      default:
        return Plain.loadTaken(plain.takesOf(state, Plain.BY_NUMBERS, Plain.ALL_AWAKE), i);
    }
  }

  private int ofLoad(int l, int what) {
    long state = deeds.now;
    switch (what) {
      case 0:
        return Scene.marksOf(state, l);
      case 1:
        return Scene.placeOf(state, l);
      case 2:
        return plain.homeOf(l);
      case 3:
        return plain.isHome(state, l) ? 1 : 0;
      default:
        return Plain.takerOf(plain.takesOf(state, Plain.BY_NUMBERS, Plain.ALL_AWAKE), l);
    }
  }

  private int doDay() {
    int takes = plain.takesOf(deeds.now, Plain.BY_NUMBERS, Plain.ALL_AWAKE);
    deeds.add(plain.gone(deeds.now, takes), true);
    return Plain.howManyTaken(takes);
  }

  private void doSmear(int l, int k) {
    long state = deeds.now;
    deeds.add(Scene.withMarks(state, l, Scene.marksOf(state, l) ^ 1 << k), false);
  }

  private void doLead(int i, int inn) {
    deeds.add(Scene.withInn(deeds.now, i, inn), false);
  }

  private void doByLot(long lot) {
    if (plain.asses <= 0 || plain.loads <= 0) {
      return;
    }
    int choice = (int) (lot / 8 % 4);
    if (choice == 0) {
      doSmear((int) (lot % plain.loads), (int) (lot / 64 % MARKS));
    } else if (choice == 1) {
      doLead((int) (lot % plain.asses), (int) (lot / 64 % INNS));
    } else {
      doDay();
    }
  }

  /** Rows of numbers (the ROWS; the TEXTS), each of a size up to the most, or missing. */
  private static final class Shelf {
    private final int most;
    private final int[] sizes;
    private final int[] cells;

    Shelf(int howMany, int most) {
      this.most = Math.max(0, most);
      this.sizes = new int[Math.max(0, howMany)];
      this.cells = new int[Math.max(0, this.sizes.length * this.most)];
      for (int r = 0; r < this.sizes.length; r++) {
        this.sizes[r] = MISSING;
      }
    }

    boolean isNumber(int r) {
      return r >= 0 && r < sizes.length;
    }

    int sizeOf(int r) {
      return r >= 0 && r < sizes.length ? sizes[r] : MISSING;
    }

    boolean isThere(int r) {
      return sizeOf(r) >= 0;
    }

    /** Whether there are n places from i on; the subtraction can't wrap round as the sum could. */
    boolean holds(int r, int i, int n) {
      int size = sizeOf(r);
      return i >= 0 && n >= 0 && i <= size && n <= size - i;
    }

    /** The FINDING about a place, or FINE. */
    int wrongPlace(int r, int i) {
      if (!isThere(r)) {
        return NOTHING;
      }
      return holds(r, i, 1) ? FINE : BEYOND;
    }

    void renew(int r, int n, int value) {
      if (r < 0 || r >= sizes.length || n < 0 || n > most) {
        return;
      }
      sizes[r] = n;
      for (int i = 0; i < n; i++) {
        swap(r, i, value);
      }
    }

    void drop(int r) {
      if (r >= 0 && r < sizes.length) {
        sizes[r] = MISSING;
      }
    }

    int get(int r, int i) {
      int cell = r * most + i;
      return holds(r, i, 1) && cell >= 0 && cell < cells.length ? cells[cell] : 0;
    }

    /** Puts a value in: what was there. */
    int swap(int r, int i, int value) {
      int was = get(r, i);
      int cell = r * most + i;
      if (holds(r, i, 1) && cell >= 0 && cell < cells.length) {
        cells[cell] = value;
      }
      return was;
    }

    void move(int r, int i, int to, int j, int n) {
      if (holds(r, i, n) && holds(to, j, n)) {
        System.arraycopy(cells, r * most + i, cells, to * most + j, n);
      }
    }

    long sumOf(int r) {
      long sum = 0L;
      for (int i = 0; i < sizeOf(r); i++) {
        sum += get(r, i);
      }
      return sum;
    }

    int howManyThere() {
      int n = 0;
      for (int r = 0; r < sizes.length; r++) {
        n += isThere(r) ? 1 : 0;
      }
      return n;
    }

    long mixedInto(long start) {
      long h = start;
      for (int r = 0; r < sizes.length; r++) {
        h = 31L * h + sizeOf(r);
        for (int i = 0; i < sizeOf(r); i++) {
          h = 31L * h + get(r, i);
        }
      }
      return h;
    }
  }

  /** The KINDS of ASSES, and how a LOAD smells to each of them. */
  private static final class Kind {
    static final int ASS = 0, GREY = 1, YOUNG = 2, STUBBORN = 3, OLD = 4, MULE = 5, HOW_MANY = 6;

    private Kind() {
    }

    static int byLetter(int letter) {
      switch (letter) {
        case 'a':
          return ASS;
        case 'g':
          return GREY;
        case 'y':
          return YOUNG;
        case 's':
          return STUBBORN;
        case 'o':
          return OLD;
        case 'm':
          return MULE;
        default:
          return NONE;
      }
    }

    static boolean isA(int kind, int wanted) {
      return wanted == ASS || kind == wanted
          || wanted == GREY && kind == OLD
          || wanted == STUBBORN && kind == MULE;
    }

    static int likeness(int kind, int memory, int marks) {
      if (kind == GREY || kind == OLD) {
        int both = Integer.bitCount(memory & marks);
        return kind == OLD ? 2 * both : both;
      }
      return MARKS - Integer.bitCount(memory ^ marks);
    }

    static int leastLike(int kind) {
      if (kind == MULE) {
        return 4;
      }
      return kind == STUBBORN ? 3 : 1;
    }

    static boolean wouldTake(int kind, int memory, int marks) {
      return likeness(kind, memory, marks) >= leastLike(kind);
    }
  }

  /**
   * All that changes on a PLAIN is packed into one long: of each ASS the MEMORY (4 bits) and the INN
   * (3 bits), then of each LOAD the MARKS (4 bits) and the INN (3 bits). So a DEED is undone, a day
   * tried aside, and a state known again, by copying and comparing a number.
   */
  private static final class Scene {
    private static final int EACH = 7, INN_AT = 4, LOADS_AT = EACH * MOST_ASSES;
    private static final int SET_MASK = 15, INN_MASK = 7;

    private Scene() {
    }

    static int memoryOf(long state, int i) {
      return part(state, EACH * i, SET_MASK);
    }

    static int innOf(long state, int i) {
      return part(state, EACH * i + INN_AT, INN_MASK);
    }

    static int marksOf(long state, int l) {
      return part(state, LOADS_AT + EACH * l, SET_MASK);
    }

    static int placeOf(long state, int l) {
      return part(state, LOADS_AT + EACH * l + INN_AT, INN_MASK);
    }

    static long withMemory(long state, int i, int memory) {
      return withPart(state, EACH * i, SET_MASK, memory);
    }

    static long withInn(long state, int i, int inn) {
      return withPart(state, EACH * i + INN_AT, INN_MASK, inn);
    }

    static long withMarks(long state, int l, int marks) {
      return withPart(state, LOADS_AT + EACH * l, SET_MASK, marks);
    }

    static long withPlace(long state, int l, int inn) {
      return withPart(state, LOADS_AT + EACH * l + INN_AT, INN_MASK, inn);
    }

    private static int part(long state, int from, int mask) {
      return (int) (state >>> from) & mask;
    }

    private static long withPart(long state, int from, int mask, int value) {
      return state & ~((long) mask << from) | (long) (value & mask) << from;
    }
  }

  /**
   * What stays on a PLAIN: KINDS, ROADS, HOMES, packed by 3 bits each. What changes is the state
   * (see Scene) that each call is handed. TAKES tell who takes what: 3 bits an ASS, the LOAD's number
   * and 1 more, or 0. An order of the LINE has 2 bits an ASS, the first in the LINE the highest.
   */
  private static final class Plain {
    private static final int EACH_BITS = 3, EACH_MASK = 7;
    /** 0, 1, 2, 3 by 2 bits each. */
    private static final int BY_NUMBERS = 27;
    private static final int ALL_AWAKE = 15;
    private int asses;
    private int loads;
    private int kinds;
    private int roads;
    private int homes;

    void clear() {
      asses = 0;
      loads = 0;
      kinds = 0;
      roads = 0;
      homes = 0;
    }

    void become(Plain other) {
      if (other == null) {
        return;
      }
      asses = other.asses;
      loads = other.loads;
      kinds = other.kinds;
      roads = other.roads;
      homes = other.homes;
    }

    void addRoad(int from, int to) {
      roads |= to << EACH_BITS * from;
    }

    void addAss(int kind) {
      kinds |= kind << EACH_BITS * asses;
      asses++;
    }

    void addLoad(int home) {
      homes |= home << EACH_BITS * loads;
      loads++;
    }

    boolean isAss(int i) {
      return i >= 0 && i < asses;
    }

    boolean isLoad(int l) {
      return l >= 0 && l < loads;
    }

    int kindOf(int i) {
      return kinds >> EACH_BITS * i & EACH_MASK;
    }

    int homeOf(int l) {
      return homes >> EACH_BITS * l & EACH_MASK;
    }

    int roadFrom(int inn) {
      return roads >> EACH_BITS * inn & EACH_MASK;
    }

    int roadsAsNumber() {
      int number = 0;
      for (int inn = 0; inn < INNS; inn++) {
        number = 10 * number + roadFrom(inn);
      }
      return number;
    }

    int howManyAre(int kind) {
      int n = 0;
      for (int i = 0; i < asses; i++) {
        n += Kind.isA(kindOf(i), kind) ? 1 : 0;
      }
      return n;
    }

    boolean isHome(long state, int l) {
      return Scene.placeOf(state, l) == homeOf(l);
    }

    int atHomes(long state) {
      int set = 0;
      for (int l = 0; l < loads; l++) {
        set |= isHome(state, l) ? 1 << l : 0;
      }
      return set;
    }

    int likeness(long state, int i, int marks) {
      return Kind.likeness(kindOf(i), Scene.memoryOf(state, i), marks);
    }

    boolean wouldTake(long state, int i, int marks) {
      return Kind.wouldTake(kindOf(i), Scene.memoryOf(state, i), marks);
    }

    int takersOf(long state, int marks) {
      int set = 0;
      for (int i = 0; i < asses; i++) {
        set |= wouldTake(state, i, marks) ? 1 << i : 0;
      }
      return set;
    }

    int loadsLikeMemory(long state, int i) {
      int n = 0;
      for (int l = 0; l < loads; l++) {
        n += Scene.marksOf(state, l) == Scene.memoryOf(state, i) ? 1 : 0;
      }
      return n;
    }

    int loadsRefused(long state, int i) {
      int n = 0;
      for (int l = 0; l < loads; l++) {
        n += wouldTake(state, i, Scene.marksOf(state, l)) ? 0 : 1;
      }
      return n;
    }

    int mostLikeness(long state, int i) {
      int most = 0;
      for (int l = 0; l < loads; l++) {
        most = Math.max(most, likeness(state, i, Scene.marksOf(state, l)));
      }
      return most;
    }

    /**
     * By how much a LOAD draws an ASS: it is LIKE to it by that; 0 if it isn't at its INN, is at its
     * HOME, or is REFUSED.
     */
    int pull(long state, int i, int l) {
      int place = Scene.placeOf(state, l);
      if (place != Scene.innOf(state, i) || place == homeOf(l)) {
        return 0;
      }
      int kind = kindOf(i);
      int by = Kind.likeness(kind, Scene.memoryOf(state, i), Scene.marksOf(state, l));
      return by < Kind.leastLike(kind) ? 0 : by;
    }

    /** The TAKES of a DAY in an order of the LINE, if those of a set of ASSES are awake. */
    int takesOf(long state, int order, int awake) {
      int takes = 0;
      int taken = 0;
      for (int p = 0; p < asses; p++) {
        int i = assInLine(order, p);
        int l = (awake >> i & 1) == 1 ? choiceOf(state, i, taken) : NONE;
        if (l != NONE) {
          taken |= 1 << l;
          takes |= l + 1 << EACH_BITS * i;
        }
      }
      return takes;
    }

    private int choiceOf(long state, int i, int taken) {
      int choice = NONE;
      int most = 0;
      for (int l = 0; l < loads; l++) {
        int by = (taken >> l & 1) == 1 ? 0 : pull(state, i, l);
        if (by > most) {
          most = by;
          choice = l;
        }
      }
      return choice;
    }

    /** The state behind a DAY of such TAKES. */
    long gone(long state, int takes) {
      long now = state;
      for (int i = 0; i < asses; i++) {
        int l = loadTaken(takes, i);
        if (l != NONE) {
          int inn = roadFrom(Scene.innOf(state, i));
          now = Scene.withPlace(Scene.withInn(now, i, inn), l, inn);
          if (kindOf(i) == Kind.YOUNG) {
            now = Scene.withMemory(now, i, Scene.marksOf(state, l));
          }
        }
      }
      return now;
    }

    static int assInLine(int order, int p) {
      return order >> 2 * (MOST_ASSES - 1 - p) & 3;
    }

    static int loadTaken(int takes, int i) {
      int more = takes >> EACH_BITS * i & EACH_MASK;
      return more == 0 ? NONE : more - 1;
    }

    static int takerOf(int takes, int l) {
      for (int i = 0; i < MOST_ASSES; i++) {
        if (loadTaken(takes, i) == l) {
          return i;
        }
      }
      return NONE;
    }

    static int howManyTaken(int takes) {
      int n = 0;
      for (int i = 0; i < MOST_ASSES; i++) {
        n += loadTaken(takes, i) == NONE ? 0 : 1;
      }
      return n;
    }
  }

  /** Reads a TEXT as a PLAIN, into a draft; where it is stuck is the FAULT. */
  private static final class Reader {
    private static final int END = -1000, STUCK = -1;
    private final int[] signs = new int[MOST_BYTES];
    private final Plain draft = new Plain();
    private long state;
    private int size;
    private int spot;

    /** The FAULT of a TEXT, or NONE: then the draft and its state are read. */
    int read(Shelf texts, int t) {
      size = texts.sizeOf(t);
      for (int i = 0; i < size && i < signs.length; i++) {
        signs[i] = texts.get(t, i);
      }
      spot = 0;
      state = 0L;
      draft.clear();
      return readRoads() && readItems() ? NONE : spot;
    }

    private int sign() {
      return spot >= 0 && spot < size && spot < signs.length ? signs[spot] : END;
    }

    private void skipBlanks() {
      for (int n = 0; n < MOST_BYTES && sign() == BLANK; n++) {
        spot++;
      }
    }

    private boolean readRoads() {
      skipBlanks();
      if (sign() != 'n') {
        return false;
      }
      spot++;
      for (int inn = 0; inn < INNS; inn++) {
        int to = readFigure(INNS - 1);
        if (to == STUCK) {
          return false;
        }
        draft.addRoad(inn, to);
      }
      return true;
    }

    private boolean readItems() {
      for (int n = 0; n <= MOST_BYTES; n++) {
        skipBlanks();
        if (sign() == END) {
          return draft.loads > 0;
        }
        boolean went = sign() == 'l' ? readLoad() : readAss();
        if (!went) {
          return false;
        }
      }
      return false;
    }

    private boolean readAss() {
      int kind = Kind.byLetter(sign());
      if (kind == NONE || draft.asses == MOST_ASSES || draft.loads > 0) {
        return false;
      }
      spot++;
      int memory = readSet();
      int inn = memory == STUCK ? STUCK : readFigure(INNS - 1);
      if (inn == STUCK) {
        return false;
      }
      state = Scene.withMemory(state, draft.asses, memory);
      state = Scene.withInn(state, draft.asses, inn);
      draft.addAss(kind);
      return true;
    }

    private boolean readLoad() {
      if (draft.asses == 0 || draft.loads == MOST_LOADS) {
        return false;
      }
      spot++;
      int marks = readSet();
      int inn = marks == STUCK ? STUCK : readFigure(INNS - 1);
      int home = inn == STUCK ? STUCK : readFigure(INNS - 1);
      if (home == STUCK) {
        return false;
      }
      state = Scene.withMarks(state, draft.loads, marks);
      state = Scene.withPlace(state, draft.loads, inn);
      draft.addLoad(home);
      return true;
    }

    private int readFigure(int most) {
      int figure = sign() - '0';
      if (figure < 0 || figure > most) {
        return STUCK;
      }
      spot++;
      return figure;
    }

    /** Two figures; if they are above 15, the FAULT is the first of both, not where that shows. */
    private int readSet() {
      int tens = readFigure(9);
      int ones = tens == STUCK ? STUCK : readFigure(9);
      if (ones == STUCK) {
        return STUCK;
      }
      int set = 10 * tens + ones;
      if (set < SETS) {
        return set;
      }
      spot -= 2;
      return STUCK;
    }
  }

  /** The state now and those ahead of each DEED; missing: no PLAIN is kept here. */
  private static final class Deeds {
    private final long[] before = new long[MOST_DEEDS];
    private long now;
    private long dayBits;
    private int size = MISSING;

    void begin(long state) {
      now = state;
      dayBits = 0L;
      size = 0;
    }

    void drop() {
      size = MISSING;
    }

    boolean isMissing() {
      return size == MISSING;
    }

    boolean hasRoomFor(int n) {
      return n <= before.length - size;
    }

    void add(long state, boolean isDay) {
      if (size < 0 || size >= before.length) {
        return;
      }
      before[size] = now;
      dayBits |= isDay ? 1L << size : 0L;
      now = state;
      size++;
    }

    /** Undoes the DEEDS from number n on: how many. */
    int takeBack(int n) {
      if (n < 0 || n >= size || n >= before.length) {
        return 0;
      }
      int gone = size - n;
      now = before[n];
      dayBits &= (1L << n) - 1L;
      size = n;
      return gone;
    }

    int howManyDays() {
      return Long.bitCount(dayBits);
    }

    void become(Deeds other) {
      if (other == null) {
        return;
      }
      System.arraycopy(other.before, 0, before, 0, MOST_DEEDS);
      now = other.now;
      dayBits = other.dayBits;
      size = other.size;
    }
  }

  /** The days to come, tried aside. */
  private static final class Foresight {
    private final long[] seen = new long[FAR + 1];

    static long behindDays(Plain plain, long state, int n) {
      long now = state;
      for (int d = 0; d < n; d++) {
        now = plain.gone(now, plain.takesOf(now, Plain.BY_NUMBERS, Plain.ALL_AWAKE));
      }
      return now;
    }

    private static boolean allHome(Plain plain, long state) {
      return plain.atHomes(state) == (1 << plain.loads) - 1;
    }

    static int daysToHomes(Plain plain, long state) {
      long now = state;
      for (int d = 0; d <= FAR; d++) {
        if (allHome(plain, now)) {
          return d;
        }
        now = behindDays(plain, now, 1);
      }
      return NONE;
    }

    /** Behind how many DAYS a state comes again first, or NONE. */
    int firstAgain(Plain plain, long state) {
      long now = state;
      for (int d = 0; d < seen.length; d++) {
        seen[d] = now;
        if (daysSince(d) > 0) {
          return d;
        }
        now = behindDays(plain, now, 1);
      }
      return NONE;
    }

    /** How many DAYS ahead of DAY d its state was seen, 0 if it was not. */
    int daysSince(int d) {
      if (d < 0 || d >= seen.length) {
        return 0;
      }
      for (int ago = 1; ago <= d; ago++) {
        if (seen[d - ago] == seen[d]) {
          return ago;
        }
      }
      return 0;
    }

    /** Which MARKS, as near to those of a LOAD as can be, bring it home in n DAYS; or NONE. */
    static int marksToHome(Plain plain, long state, int l, int n) {
      int now = Scene.marksOf(state, l);
      int best = NONE;
      int fewest = MARKS + 1;
      for (int marks = 0; marks < SETS; marks++) {
        int changes = Integer.bitCount(marks ^ now);
        if (changes < fewest) {
          // a LOAD at its HOME is not taken again: where it is at last tells of all the DAYS
          long then = behindDays(plain, Scene.withMarks(state, l, marks), n);
          if (plain.isHome(then, l)) {
            fewest = changes;
            best = marks;
          }
        }
      }
      return best;
    }
  }

  /** Who along the wall could have which LOAD. */
  private static final class Wall {
    private static final int LOAD_SETS = 1 << MOST_LOADS;
    private static final int NIBBLE = 4, NIBBLE_MASK = 15;

    /** The most that ASSES i, i + 1, .. can get if a set of LOADS is given already. */
    private final int[] best = new int[(MOST_ASSES + 1) * LOAD_SETS];

    private int bestFrom(int i, int given) {
      int cell = i * LOAD_SETS + given;
      return cell >= 0 && cell < best.length ? best[cell] : 0;
    }

    private void setBest(int i, int given, int value) {
      int cell = i * LOAD_SETS + given;
      if (cell >= 0 && cell < best.length) {
        best[cell] = value;
      }
    }

    int most() {
      return bestFrom(0, 0);
    }

    /** Fills the table of the most, from the last ASS on. */
    void weigh(Plain plain, long state) {
      for (int given = 0; given < LOAD_SETS; given++) {
        setBest(plain.asses, given, 0);
      }
      for (int i = plain.asses - 1; i >= 0; i--) {
        for (int given = 0; given < LOAD_SETS; given++) {
          setBest(i, given, mostOf(plain, state, i, given));
        }
      }
    }

    private int mostOf(Plain plain, long state, int i, int given) {
      int most = bestFrom(i + 1, given);
      for (int l = 0; l < plain.loads; l++) {
        most = Math.max(most, mostWith(plain, state, i, given, l));
      }
      return most;
    }

    /** The most of ASSES i, i + 1, .. if this LOAD goes to i, or NONE: it can't. */
    private int mostWith(Plain plain, long state, int i, int given, int l) {
      int by = (given >> l & 1) == 1 ? 0 : plain.pull(state, i, l);
      return by == 0 ? NONE : by + bestFrom(i + 1, given | 1 << l);
    }

    /** Puts the first row of those that come to the most into a ROW that holds NONE alone. */
    void giveOut(Plain plain, long state, Shelf rows, int r) {
      int given = 0;
      for (int i = 0; i < plain.asses; i++) {
        int most = bestFrom(i, given);
        if (bestFrom(i + 1, given) < most) {
          int l = firstWith(plain, state, i, given);
          rows.swap(r, i, l);
          given |= l == NONE ? 0 : 1 << l;
        }
      }
    }

    private int firstWith(Plain plain, long state, int i, int given) {
      for (int l = 0; l < plain.loads; l++) {
        if (mostWith(plain, state, i, given, l) == bestFrom(i, given)) {
          return l;
        }
      }
      return NONE;
    }

    /** The first order by which an ASS takes a LOAD, or NONE. */
    static int firstOrder(Plain plain, long state, int i, int l) {
      for (int n = 0; n < codes(plain); n++) {
        int order = orderOf(plain, n);
        if (takesBy(plain, state, order, i, l)) {
          return order;
        }
      }
      return NONE;
    }

    static int howManyOrders(Plain plain, long state, int i, int l) {
      int orders = 0;
      for (int n = 0; n < codes(plain); n++) {
        orders += takesBy(plain, state, orderOf(plain, n), i, l) ? 1 : 0;
      }
      return orders;
    }

    private static int codes(Plain plain) {
      return 1 << 2 * plain.asses;
    }

    /** Codes that rise are rows of numbers that rise: the orders come by numbers. */
    private static int orderOf(Plain plain, int code) {
      return code << 2 * (MOST_ASSES - plain.asses);
    }

    private static boolean takesBy(Plain plain, long state, int order, int i, int l) {
      return isOrder(plain, order)
          && Plain.loadTaken(plain.takesOf(state, order, Plain.ALL_AWAKE), i) == l;
    }

    private static boolean isOrder(Plain plain, int order) {
      int seen = 0;
      for (int p = 0; p < plain.asses; p++) {
        seen |= 1 << Plain.assInLine(order, p);
      }
      return seen == (1 << plain.asses) - 1;
    }

    /** The fewest ASSES (bits) of whom one at least would take each LOAD, or NONE. */
    static int fewestForAll(Plain plain, long state) {
      int best = NONE;
      int fewest = MOST_ASSES + 1;
      for (int set = 0; set < 1 << plain.asses; set++) {
        int many = Integer.bitCount(set);
        if (many < fewest && takeAll(plain, state, set)) {
          fewest = many;
          best = set;
        }
      }
      return best;
    }

    private static boolean takeAll(Plain plain, long state, int set) {
      for (int l = 0; l < plain.loads; l++) {
        if ((plain.takersOf(state, Scene.marksOf(state, l)) & set) == 0) {
          return false;
        }
      }
      return true;
    }

    /** How many would take a LOAD behind n turns of each; worked from the last turn to the first. */
    static int takersByTurns(Plain plain, long state, int l, int n) {
      long values = 0L;
      for (int marks = 0; marks < SETS; marks++) {
        long takers = Integer.bitCount(plain.takersOf(state, marks));
        values |= takers << NIBBLE * marks;
      }
      for (int turn = 0; turn < n; turn++) {
        values = aheadOfTurn(aheadOfTurn(values, false), true);
      }
      return valueOf(values, Scene.marksOf(state, l));
    }

    private static int valueOf(long values, int marks) {
      return (int) (values >>> NIBBLE * marks) & NIBBLE_MASK;
    }

    /** What each set of MARKS (4 bits each) is worth to one who may change a MARK, or none, now. */
    private static long aheadOfTurn(long values, boolean wantsMany) {
      long ahead = 0L;
      for (int marks = 0; marks < SETS; marks++) {
        int worth = valueOf(values, marks);
        for (int k = 0; k < MARKS; k++) {
          int other = valueOf(values, marks ^ 1 << k);
          worth = wantsMany ? Math.max(worth, other) : Math.min(worth, other);
        }
        ahead |= (long) worth << NIBBLE * marks;
      }
      return ahead;
    }
  }

  /** What an ASS may be, or remember, by a ROW of pairs: MARKS, and whether it took such a LOAD. */
  private static final class Guess {
    private Guess() {
    }

    /** The FINDING about a ROW of pairs, or FINE. */
    static int wrongPairs(Shelf rows, int r) {
      if (!rows.isThere(r)) {
        return NOTHING;
      }
      int size = rows.sizeOf(r);
      if (size > 2 * MOST_PAIRS || size % 2 != 0) {
        return SIZE;
      }
      for (int i = 0; i < size; i += 2) {
        int took = rows.get(r, i + 1);
        if (!isSet(rows.get(r, i)) || took < 0 || took > 1) {
          return UNLIKE;
        }
      }
      return FINE;
    }

    private static boolean fits(Shelf rows, int r, int kind, int memory) {
      for (int i = 0; i < rows.sizeOf(r); i += 2) {
        boolean took = rows.get(r, i + 1) == 1;
        if (Kind.wouldTake(kind, memory, rows.get(r, i)) != took) {
          return false;
        }
      }
      return true;
    }

    static int memoriesBy(Shelf rows, int r, int kind) {
      int set = 0;
      for (int memory = 0; memory < SETS; memory++) {
        set |= fits(rows, r, kind, memory) ? 1 << memory : 0;
      }
      return set;
    }

    static int kindsBy(Shelf rows, int r, int memory) {
      int set = 0;
      for (int kind = 0; kind < Kind.HOW_MANY; kind++) {
        set |= fits(rows, r, kind, memory) ? 1 << kind : 0;
      }
      return set;
    }

    /** The first MARKS by which the greater part of these MEMORIES is least. */
    static int tellingMarks(int kind, int possible) {
      int best = 0;
      for (int marks = 1; marks < SETS; marks++) {
        if (greaterPart(kind, possible, marks) < greaterPart(kind, possible, best)) {
          best = marks;
        }
      }
      return best;
    }

    static int greaterPart(int kind, int possible, int marks) {
      int take = 0;
      for (int memory = 0; memory < SETS; memory++) {
        if ((possible >> memory & 1) == 1 && Kind.wouldTake(kind, memory, marks)) {
          take++;
        }
      }
      return Math.max(take, Integer.bitCount(possible) - take);
    }
  }

  /** Chances and means if ASSES sleep; the latest is kept, in lowest terms. */
  private static final class Chances {
    private long over = 0L;
    private long under = 1L;

    void ofTaking(Plain plain, long state, int l, int p) {
      long sum = 0L;
      for (int awake = 0; awake < 1 << plain.asses; awake++) {
        int takes = plain.takesOf(state, Plain.BY_NUMBERS, awake);
        if (Plain.takerOf(takes, l) != NONE) {
          sum += weight(plain, awake, p);
        }
      }
      keepLowest(sum, power(TWELVE, plain.asses));
    }

    void ofHomes(Plain plain, long state, int p) {
      long sum = 0L;
      for (int awake = 0; awake < 1 << plain.asses; awake++) {
        int takes = plain.takesOf(state, Plain.BY_NUMBERS, awake);
        int homes = Integer.bitCount(plain.atHomes(plain.gone(state, takes)));
        sum += homes * weight(plain, awake, p);
      }
      keepLowest(sum, power(TWELVE, plain.asses));
    }

    /** By how many of 12 times 12 times .. just those of a set of ASSES are awake. */
    private static long weight(Plain plain, int awake, int p) {
      int awakeOnes = Integer.bitCount(awake);
      return power(p, plain.asses - awakeOnes) * power(TWELVE - p, awakeOnes);
    }

    private static long power(int base, int n) {
      long product = 1L;
      for (int k = 0; k < n; k++) {
        product *= base;
      }
      return product;
    }

    private void keepLowest(long number, long parts) {
      long common = commonDivisor(number, parts);
      if (common <= 0L) {
        return;
      }
      over = number / common;
      under = parts / common;
    }

    /** The rest falls below half of itself every second step: far fewer than 128 steps are needed. */
    private static long commonDivisor(long one, long other) {
      long a = one;
      long b = other;
      for (int step = 0; step < 128 && b != 0L; step++) {
        long rest = a % b;
        a = b;
        b = rest;
      }
      return a;
    }
  }
}
