import java.math.BigInteger;
import java.util.ArrayList;
import java.util.Arrays;
import java.util.List;

/**
 * The document once more, worked out slowly and in another way than the program: objects that are
 * copied, orders and gifts that are all tried, turns played through. ModelTests compares both.
 */
final class Model {
  static final int BAD = -1, FULL = -2, FINDING = -3, STATE = -4, NONE = -9;

  static final class Ass {
    char letter;
    int memory;
    int inn;
  }

  static final class Load {
    int marks;
    int inn;
    int home;
  }

  static final class Plain {
    int[] road = new int[5];
    List<Ass> asses = new ArrayList<>();
    List<Load> loads = new ArrayList<>();
    int day = 0;

    Plain twin() {
      Plain p = new Plain();
      p.road = road.clone();
      p.day = day;
      for (Ass a : asses) {
        Ass b = new Ass();
        b.letter = a.letter;
        b.memory = a.memory;
        b.inn = a.inn;
        p.asses.add(b);
      }
      for (Load l : loads) {
        Load m = new Load();
        m.marks = l.marks;
        m.inn = l.inn;
        m.home = l.home;
        p.loads.add(m);
      }
      return p;
    }

    String looks() {
      StringBuilder b = new StringBuilder();
      for (Ass a : asses) {
        b.append(a.inn).append('/').append(a.memory).append(' ');
      }
      for (Load l : loads) {
        b.append(l.inn).append(' ');
      }
      return b.toString();
    }

    int atHome() {
      int n = 0;
      for (Load l : loads) {
        n += l.inn == l.home ? 1 : 0;
      }
      return n;
    }
  }

  private final int[][] rows = new int[6][];
  private final byte[][] texts = new byte[4][];
  private Plain now = new Plain();
  private List<Plain> past = new ArrayList<>();
  private final Plain[] keptNow = new Plain[3];
  private final List<List<Plain>> keptPast = new ArrayList<>(Arrays.asList(null, null, null));
  int asked = 0;
  long upper = 0;
  long lower = 1;
  int finding = 0;
  final int[] findings = new int[6];

  private int find(int f) {
    finding = f;
    findings[f]++;
    return FINDING;
  }

  private int tells(int what) {
    asked = what;
    return 1;
  }

  static int[] kindsOf(char letter) {
    switch (letter) {
      case 'a': return new int[] {0};
      case 'g': return new int[] {1, 0};
      case 'y': return new int[] {2, 0};
      case 's': return new int[] {3, 0};
      case 'o': return new int[] {4, 1, 0};
      default: return new int[] {5, 3, 0};
    }
  }

  static boolean is(char letter, int kind) {
    for (int k : kindsOf(letter)) {
      if (k == kind) {
        return true;
      }
    }
    return false;
  }

  static int like(char letter, int memory, int marks) {
    int both = 0;
    int neither = 0;
    for (int k = 0; k < 4; k++) {
      boolean in = (memory & 1 << k) != 0;
      boolean on = (marks & 1 << k) != 0;
      both += in && on ? 1 : 0;
      neither += !in && !on ? 1 : 0;
    }
    switch (letter) {
      case 'g': return both;
      case 'o': return both + both;
      default: return both + neither;
    }
  }

  static boolean refuses(char letter, int memory, int marks) {
    int by = like(letter, memory, marks);
    switch (letter) {
      case 's': return by < 3;
      case 'm': return by < 4;
      default: return by < 1;
    }
  }

  /** Who takes what, in an order of some of the asses. */
  static int[] takes(Plain p, List<Integer> order) {
    int[] takes = new int[p.asses.size()];
    Arrays.fill(takes, NONE);
    boolean[] gone = new boolean[p.loads.size()];
    for (int i : order) {
      Ass a = p.asses.get(i);
      int best = NONE;
      for (int l = p.loads.size() - 1; l >= 0; l--) {
        Load b = p.loads.get(l);
        if (b.inn == a.inn && b.inn != b.home && !gone[l]) {
          if (best == NONE || like(a.letter, a.memory, b.marks) >= like(a.letter, a.memory, p.loads.get(best).marks)) {
            best = l;
          }
        }
      }
      if (best != NONE && !refuses(a.letter, a.memory, p.loads.get(best).marks)) {
        takes[i] = best;
        gone[best] = true;
      }
    }
    return takes;
  }

  static List<Integer> inLine(Plain p) {
    List<Integer> order = new ArrayList<>();
    for (int i = 0; i < p.asses.size(); i++) {
      order.add(i);
    }
    return order;
  }

  static int go(Plain p, int[] takes) {
    int n = 0;
    for (int i = 0; i < takes.length; i++) {
      if (takes[i] != NONE) {
        n++;
        Ass a = p.asses.get(i);
        Load l = p.loads.get(takes[i]);
        a.inn = p.road[a.inn];
        l.inn = a.inn;
        if (a.letter == 'y') {
          a.memory = l.marks;
        }
      }
    }
    p.day++;
    return n;
  }

  static int goOn(Plain p) {
    return go(p, takes(p, inLine(p)));
  }

  // ---- rows, texts

  int row(int r, int n) {
    if (r < 0 || r > 5 || n > 40) return BAD;
    if (n < 0) return find(5);
    rows[r] = new int[n];
    return n;
  }

  int lay(int r, int i, int v) {
    if (r < 0 || r > 5) return BAD;
    if (rows[r] == null) return find(1);
    if (i < 0 || i >= rows[r].length) return find(2);
    int was = rows[r][i];
    rows[r][i] = v;
    return tells(was);
  }

  int at(int r, int i) {
    if (r < 0 || r > 5) return BAD;
    if (rows[r] == null) return find(1);
    if (i < 0 || i >= rows[r].length) return find(2);
    return tells(rows[r][i]);
  }

  int tear(int r) {
    if (r < 0 || r > 5) return BAD;
    if (rows[r] == null) return find(1);
    rows[r] = null;
    return 1;
  }

  int copy(int r, int i, int to, int j, int n) {
    if (r < 0 || r > 5 || to < 0 || to > 5) return BAD;
    if (n < 0) return find(5);
    if (rows[r] == null || rows[to] == null) return find(1);
    if (i < 0 || (long) i + n > rows[r].length || j < 0 || (long) j + n > rows[to].length) return find(2);
    int[] ahead = rows[r].clone();
    for (int k = 0; k < n; k++) {
      rows[to][j + k] = ahead[i + k];
    }
    return 1;
  }

  int mean(int r) {
    if (r < 0 || r > 5) return BAD;
    if (rows[r] == null) return find(1);
    if (rows[r].length == 0) return find(4);
    BigInteger sum = BigInteger.ZERO;
    for (int v : rows[r]) {
      sum = sum.add(BigInteger.valueOf(v));
    }
    return tells(sum.divide(BigInteger.valueOf(rows[r].length)).intValueExact());
  }

  int text(int t, int n) {
    if (t < 0 || t > 3 || n > 60) return BAD;
    if (n < 0) return find(5);
    texts[t] = new byte[n];
    Arrays.fill(texts[t], (byte) 32);
    return n;
  }

  int put(int t, int i, int v) {
    if (t < 0 || t > 3) return BAD;
    if (texts[t] == null) return find(1);
    if (i < 0 || i >= texts[t].length) return find(2);
    int was = texts[t][i];
    texts[t][i] = (byte) v;
    return was + 1000;
  }

  /** Sign by sign; "due" are the figures that the item still wants: f a first of two, s a second, i an inn. */
  static int fault(byte[] text, Plain into) {
    String due = "";
    boolean roads = false;
    int asses = 0;
    int loads = 0;
    List<Integer> figures = new ArrayList<>();
    char letter = 0;
    for (int p = 0; p < text.length; p++) {
      char c = (char) text[p];
      if (due.isEmpty()) {
        if (c == ' ') continue;
        letter = c;
        figures.clear();
        if (!roads) {
          if (c != 'n') return p;
          roads = true;
          due = "iiiii";
        } else if (c == 'l') {
          if (asses == 0 || loads == 5) return p;
          loads++;
          due = "fsii";
        } else {
          if ("agysom".indexOf(c) < 0 || loads > 0 || asses == 4) return p;
          asses++;
          due = "fsi";
        }
        continue;
      }
      char wants = due.charAt(0);
      if (c < '0' || c > (wants == 'i' ? '4' : '9')) return p;
      figures.add(c - '0');
      if (wants == 's' && 10 * figures.get(0) + figures.get(1) > 15) return p - 1;
      due = due.substring(1);
      if (due.isEmpty()) {
        build(into, letter, figures);
      }
    }
    return due.isEmpty() && loads > 0 ? NONE : text.length;
  }

  private static void build(Plain into, char letter, List<Integer> figures) {
    if (letter == 'n') {
      for (int k = 0; k < 5; k++) {
        into.road[k] = figures.get(k);
      }
    } else if (letter == 'l') {
      Load l = new Load();
      l.marks = 10 * figures.get(0) + figures.get(1);
      l.inn = figures.get(2);
      l.home = figures.get(3);
      into.loads.add(l);
    } else {
      Ass a = new Ass();
      a.letter = letter;
      a.memory = 10 * figures.get(0) + figures.get(1);
      a.inn = figures.get(2);
      into.asses.add(a);
    }
  }

  int fault(int t) {
    if (t < 0 || t > 3) return BAD;
    if (texts[t] == null) return find(1);
    return fault(texts[t], new Plain());
  }

  int plain(int t) {
    if (t < 0 || t > 3) return BAD;
    if (texts[t] == null) return find(1);
    Plain p = new Plain();
    if (fault(texts[t], p) != NONE) return STATE;
    now = p;
    past = new ArrayList<>();
    Arrays.fill(keptNow, null);
    return p.loads.size();
  }

  private boolean noAss(int i) {
    return i < 0 || i >= now.asses.size();
  }

  private boolean noLoad(int l) {
    return l < 0 || l >= now.loads.size();
  }

  private int assTells(int i, int what) {
    Ass a = now.asses.get(i);
    switch (what) {
      case 0: return kindsOf(a.letter)[0];
      case 1: return a.memory;
      case 2: return a.inn;
      default: return takes(now, inLine(now))[i];
    }
  }

  private int loadTells(int l, int what) {
    Load b = now.loads.get(l);
    switch (what) {
      case 0: return b.marks;
      case 1: return b.inn;
      case 2: return b.home;
      case 3: return b.inn == b.home ? 1 : 0;
      default:
        int[] takes = takes(now, inLine(now));
        for (int i = 0; i < takes.length; i++) {
          if (takes[i] == l) {
            return i;
          }
        }
        return NONE;
    }
  }

  int ass(int i, int what) {
    if (noAss(i) || what < 0 || what > 3) return BAD;
    return tells(assTells(i, what));
  }

  int load(int l, int what) {
    if (noLoad(l) || what < 0 || what > 4) return BAD;
    return tells(loadTells(l, what));
  }

  int mark(int i, int kind) {
    if (noAss(i) || kind < 1 || kind > 5) return BAD;
    Ass a = now.asses.get(i);
    if (!is(a.letter, kind)) return find(3);
    int same = 0;
    int refused = 0;
    int most = 0;
    for (Load l : now.loads) {
      same += l.marks == a.memory ? 1 : 0;
      refused += refuses(a.letter, a.memory, l.marks) ? 1 : 0;
      most = Math.max(most, like(a.letter, a.memory, l.marks));
    }
    return new int[] {0, Integer.bitCount(a.memory), same, refused, most, 4}[kind];
  }

  // ---- deeds

  int day() {
    if (now.asses.isEmpty()) return STATE;
    if (past.size() >= 40) return FULL;
    past.add(now.twin());
    return goOn(now);
  }

  int smear(int l, int k) {
    if (noLoad(l) || k < 0 || k > 3) return BAD;
    if (past.size() >= 40) return FULL;
    past.add(now.twin());
    return now.loads.get(l).marks ^= 1 << k;
  }

  int lead(int i, int inn) {
    if (noAss(i) || inn < 0 || inn > 4) return BAD;
    int was = now.asses.get(i).inn;
    if (was == inn) return STATE;
    if (past.size() >= 40) return FULL;
    past.add(now.twin());
    now.asses.get(i).inn = inn;
    return was;
  }

  int undo(int n) {
    if (n < 0 || n > past.size()) return BAD;
    int gone = 0;
    while (past.size() > n) {
      now = past.remove(past.size() - 1);
      gone++;
    }
    return gone;
  }

  int keep(int k) {
    if (k < 0 || k > 2) return BAD;
    if (now.asses.isEmpty()) return STATE;
    keptNow[k] = now.twin();
    keptPast.set(k, twins(past));
    return past.size();
  }

  int on(int k) {
    if (k < 0 || k > 2) return BAD;
    if (keptNow[k] == null) return find(1);
    now = keptNow[k].twin();
    past = twins(keptPast.get(k));
    return past.size();
  }

  private static List<Plain> twins(List<Plain> from) {
    List<Plain> to = new ArrayList<>();
    for (Plain p : from) {
      to.add(p.twin());
    }
    return to;
  }

  // ---- likeness, days to come

  int like(int i, int marks) {
    if (noAss(i) || marks < 0 || marks > 15) return BAD;
    return like(now.asses.get(i).letter, now.asses.get(i).memory, marks);
  }

  int who(int marks) {
    if (marks < 0 || marks > 15) return BAD;
    int set = 0;
    for (int i = 0; i < now.asses.size(); i++) {
      Ass a = now.asses.get(i);
      set += refuses(a.letter, a.memory, marks) ? 0 : 1 << i;
    }
    return set;
  }

  int where(int l, int n) {
    if (noLoad(l) || n < 0 || n > 60) return BAD;
    Plain p = now.twin();
    for (int d = 0; d < n; d++) {
      goOn(p);
    }
    return p.loads.get(l).inn;
  }

  int home() {
    if (now.asses.isEmpty()) return STATE;
    Plain p = now.twin();
    for (int d = 0; d <= 60; d++) {
      if (p.atHome() == p.loads.size()) return d;
      goOn(p);
    }
    return NONE;
  }

  int round() {
    if (now.asses.isEmpty()) return STATE;
    Plain p = now.twin();
    List<String> seen = new ArrayList<>();
    seen.add(p.looks());
    for (int d = 1; d <= 60; d++) {
      goOn(p);
      int ahead = seen.indexOf(p.looks());
      if (ahead >= 0) {
        asked = d - ahead;
        return d;
      }
      seen.add(p.looks());
    }
    return NONE;
  }

  int marks(int l, int n) {
    if (noLoad(l) || n < 0 || n > 20) return BAD;
    for (int changes = 0; changes <= 4; changes++) {
      for (int set = 0; set < 16; set++) {
        if (Integer.bitCount(set ^ now.loads.get(l).marks) == changes && comesHome(l, n, set)) {
          asked = set;
          return changes;
        }
      }
    }
    return NONE;
  }

  private boolean comesHome(int l, int n, int marks) {
    Plain p = now.twin();
    p.loads.get(l).marks = marks;
    for (int d = 0; d <= n; d++) {
      if (p.loads.get(l).inn == p.loads.get(l).home) return true;
      goOn(p);
    }
    return false;
  }

  // ---- the wall

  int match(int r) {
    if (r < 0 || r > 5) return BAD;
    if (now.asses.isEmpty()) return STATE;
    int n = now.asses.size();
    int[] best = new int[n + 1];
    best[n] = -1;
    give(0, new int[n], 0, best);
    rows[r] = Arrays.copyOf(best, n);
    return best[n];
  }

  /** Tries all gifts, the first rows first; best holds the row and, behind it, what it comes to. */
  private void give(int i, int[] row, int sum, int[] best) {
    int n = now.asses.size();
    if (i == n) {
      if (sum > best[n]) {
        System.arraycopy(row, 0, best, 0, n);
        best[n] = sum;
      }
      return;
    }
    row[i] = NONE;
    give(i + 1, row, sum, best);
    Ass a = now.asses.get(i);
    for (int l = 0; l < now.loads.size(); l++) {
      Load b = now.loads.get(l);
      boolean free = b.inn == a.inn && b.inn != b.home && !refuses(a.letter, a.memory, b.marks);
      for (int k = 0; k < i; k++) {
        free &= row[k] != l;
      }
      if (free) {
        row[i] = l;
        give(i + 1, row, sum + like(a.letter, a.memory, b.marks), best);
      }
    }
  }

  int line(int i, int l, int r) {
    if (noAss(i) || noLoad(l) || r < 0 || r > 5) return BAD;
    List<List<Integer>> orders = new ArrayList<>();
    order(new ArrayList<>(), orders);
    int n = 0;
    for (List<Integer> order : orders) {
      if (takes(now, order)[i] == l) {
        if (n == 0) {
          rows[r] = new int[order.size()];
          for (int p = 0; p < order.size(); p++) {
            rows[r][p] = order.get(p);
          }
        }
        n++;
      }
    }
    return n == 0 ? NONE : n;
  }

  private void order(List<Integer> ahead, List<List<Integer>> all) {
    if (ahead.size() == now.asses.size()) {
      all.add(new ArrayList<>(ahead));
      return;
    }
    for (int i = 0; i < now.asses.size(); i++) {
      if (!ahead.contains(i)) {
        ahead.add(i);
        order(ahead, all);
        ahead.remove(ahead.size() - 1);
      }
    }
  }

  int cover() {
    if (now.asses.isEmpty()) return STATE;
    for (int many = 1; many <= now.asses.size(); many++) {
      for (int set = 0; set < 16; set++) {
        if (Integer.bitCount(set) == many && set < 1 << now.asses.size() && covers(set)) {
          asked = set;
          return many;
        }
      }
    }
    return NONE;
  }

  private boolean covers(int set) {
    for (Load l : now.loads) {
      boolean one = false;
      for (int i = 0; i < now.asses.size(); i++) {
        Ass a = now.asses.get(i);
        one |= (set & 1 << i) != 0 && !refuses(a.letter, a.memory, l.marks);
      }
      if (!one) return false;
    }
    return true;
  }

  // ---- by what it took

  private int pairsFinding(int r) {
    if (rows[r] == null) return 1;
    if (rows[r].length % 2 == 1 || rows[r].length / 2 > 8) return 5;
    for (int k = 0; k < rows[r].length; k++) {
      if (rows[r][k] < 0 || rows[r][k] > (k % 2 == 0 ? 15 : 1)) return 3;
    }
    return 0;
  }

  private boolean tells(int r, char letter, int memory) {
    boolean so = true;
    for (int k = 0; k + 1 < rows[r].length; k += 2) {
      so &= refuses(letter, memory, rows[r][k]) == (rows[r][k + 1] == 0);
    }
    return so;
  }

  int memories(int i, int r) {
    if (noAss(i) || r < 0 || r > 5) return BAD;
    int wrong = pairsFinding(r);
    if (wrong != 0) return find(wrong);
    int set = 0;
    for (int m = 0; m < 16; m++) {
      set += tells(r, now.asses.get(i).letter, m) ? 1 << m : 0;
    }
    return set;
  }

  int kinds(int i, int r) {
    if (noAss(i) || r < 0 || r > 5) return BAD;
    int wrong = pairsFinding(r);
    if (wrong != 0) return find(wrong);
    int set = 0;
    for (int k = 0; k < 6; k++) {
      set += tells(r, "agysom".charAt(k), now.asses.get(i).memory) ? 1 << k : 0;
    }
    return set;
  }

  int next(int i, int r) {
    if (noAss(i) || r < 0 || r > 5) return BAD;
    int wrong = pairsFinding(r);
    if (wrong != 0) return find(wrong);
    char letter = now.asses.get(i).letter;
    int best = NONE;
    int least = 17;
    for (int x = 0; x < 16; x++) {
      int take = 0;
      int refuse = 0;
      for (int m = 0; m < 16; m++) {
        if (tells(r, letter, m)) {
          if (refuses(letter, m, x)) {
            refuse++;
          } else {
            take++;
          }
        }
      }
      if (take + refuse > 0 && Math.max(take, refuse) < least) {
        least = Math.max(take, refuse);
        best = x;
      }
    }
    if (best != NONE) {
      asked = least;
    }
    return best;
  }

  // ---- by turns, chances, lots

  int duel(int l, int n) {
    if (noLoad(l) || n < 0 || n > 2) return BAD;
    return play(now.loads.get(l).marks, 2 * n);
  }

  private int play(int marks, int left) {
    if (left == 0) return Integer.bitCount(who(marks));
    boolean many = left % 2 == 0;
    int best = play(marks, left - 1);
    for (int k = 0; k < 4; k++) {
      int other = play(marks ^ 1 << k, left - 1);
      best = many ? Math.max(best, other) : Math.min(best, other);
    }
    return best;
  }

  /** A day with sleepers, ass by ass; sums, over 12 times 12 .. cases, by what a case counts. */
  private long cases(int i, int p, List<Integer> awake, int load) {
    if (i == now.asses.size()) {
      int[] takes = takes(now, awake);
      if (load >= 0) {
        for (int taken : takes) {
          if (taken == load) return 1;
        }
        return 0;
      }
      Plain then = now.twin();
      go(then, takes);
      return then.atHome();
    }
    List<Integer> more = new ArrayList<>(awake);
    more.add(i);
    return p * cases(i + 1, p, awake, load) + (12 - p) * cases(i + 1, p, more, load);
  }

  private int fraction(long sum) {
    BigInteger up = BigInteger.valueOf(sum);
    BigInteger low = BigInteger.valueOf(12).pow(now.asses.size());
    BigInteger by = up.gcd(low);
    upper = up.divide(by).longValueExact();
    lower = low.divide(by).longValueExact();
    return 1;
  }

  int odds(int l, int p) {
    if (noLoad(l) || p < 0 || p > 12) return BAD;
    return fraction(cases(0, p, new ArrayList<>(), l));
  }

  int mid(int p) {
    if (p < 0 || p > 12) return BAD;
    if (now.asses.isEmpty()) return STATE;
    return fraction(cases(0, p, new ArrayList<>(), -1));
  }

  int lots(int n, int seed) {
    if (n < 1 || n > 20 || seed < 1 || seed > 2147483646) return BAD;
    if (now.asses.isEmpty()) return STATE;
    if (past.size() + n > 40) return FULL;
    BigInteger it = BigInteger.valueOf(seed);
    for (int k = 0; k < n; k++) {
      it = it.multiply(BigInteger.valueOf(48271)).mod(BigInteger.valueOf(2147483647));
      int lot = it.intValueExact();
      past.add(now.twin());
      int choice = lot / 8 % 4;
      if (choice == 0) {
        now.loads.get(lot % now.loads.size()).marks ^= 1 << lot / 64 % 4;
      } else if (choice == 1) {
        now.asses.get(lot % now.asses.size()).inn = lot / 64 % 5;
      } else {
        goOn(now);
      }
    }
    return now.atHome();
  }

  // ---- what is told

  int count(int what) {
    int n = 0;
    switch (what) {
      case 0: return now.asses.size();
      case 1: return now.loads.size();
      case 2: return now.day;
      case 3: return past.size();
      case 4:
        for (int l = 0; l < now.loads.size(); l++) {
          n += now.loads.get(l).inn == now.loads.get(l).home ? 1 << l : 0;
        }
        return n;
      case 5: return Integer.parseInt("" + now.road[0] + now.road[1] + now.road[2] + now.road[3] + now.road[4]);
      case 6:
      case 7:
        for (Ass a : now.asses) {
          n += is(a.letter, what == 6 ? 1 : 3) ? 1 : 0;
        }
        return n;
      case 8:
        for (int[] row : rows) {
          n += row != null ? 1 : 0;
        }
        return n;
      case 9:
        for (byte[] text : texts) {
          n += text != null ? 1 : 0;
        }
        return n;
      case 10:
        for (Plain p : keptNow) {
          n += p != null ? 1 : 0;
        }
        return n;
      default: return BAD;
    }
  }

  int findings(int f) {
    return f < 1 || f > 5 ? BAD : findings[f];
  }

  long digest() {
    List<Integer> all = new ArrayList<>();
    for (int what = 0; what <= 10; what++) {
      all.add(count(what));
    }
    for (int i = 0; i < now.asses.size(); i++) {
      for (int what = 0; what < 4; what++) {
        all.add(assTells(i, what));
      }
    }
    for (int l = 0; l < now.loads.size(); l++) {
      for (int what = 0; what < 5; what++) {
        all.add(loadTells(l, what));
      }
    }
    for (int k = 0; k < 3; k++) {
      all.add(keptNow[k] == null ? -1 : keptPast.get(k).size());
    }
    for (int[] row : rows) {
      all.add(row == null ? -1 : row.length);
      for (int k = 0; row != null && k < row.length; k++) {
        all.add(row[k]);
      }
    }
    for (byte[] text : texts) {
      all.add(text == null ? -1 : text.length);
      for (int k = 0; text != null && k < text.length; k++) {
        all.add((int) text[k]);
      }
    }
    long h = 17;
    for (int v : all) {
      h = 31 * h + v;
    }
    return h;
  }
}
