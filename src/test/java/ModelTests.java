import java.util.Random;

/** Many runs of calls with seeded numbers, ordinary, at the edges and wild: the program against Model. */
public final class ModelTests {
  private static final int RUNS = 1200, CALLS = 500;
  private static final int[] WILD = {Integer.MIN_VALUE, Integer.MIN_VALUE + 1, -1000, -9, -2, -1, 0, 1, 2, 3, 4, 5,
      6, 7, 8, 12, 13, 15, 16, 20, 21, 39, 40, 41, 59, 60, 61, 1000, 1 << 20, 1 << 30,
      Integer.MAX_VALUE - 1, Integer.MAX_VALUE};
  private static final Due due = new Due();
  private static Random random;
  private static SmellBurdens x;
  private static Model m;

  public static void main(String[] args) {
    for (int run = 0; run < RUNS; run++) {
      random = new Random(run);
      x = new SmellBurdens();
      m = new Model();
      if (run % 7 != 0) {
        write(0, validText());
        same("run " + run + ": plain(0)", x.plain(0), m.plain(0));
      }
      for (int c = 0; c < CALLS; c++) {
        step("run " + run + " call " + c + ": ");
      }
    }
    due.end();
  }

  private static void same(String call, long got, long want) {
    due.is(call, got, want);
    due.is(call + " asked()", x.asked(), m.asked);
    due.is(call + " upper()", x.upper(), m.upper);
    due.is(call + " lower()", x.lower(), m.lower);
    due.is(call + " finding()", x.finding(), m.finding);
    due.is(call + " digest()", x.digest(), m.digest());
  }

  /** Mostly from low to high, sometimes just outside, seldom wild. */
  private static int from(int low, int high) {
    int way = random.nextInt(40);
    if (way == 0) {
      return WILD[random.nextInt(WILD.length)];
    }
    if (way == 1) {
      return random.nextBoolean() ? low - 1 : high + 1;
    }
    return low + random.nextInt(high - low + 1);
  }

  private static String two(int n) {
    return n < 10 ? "0" + n : "" + n;
  }

  private static String blanks() {
    return random.nextInt(4) == 0 ? " " : "";
  }

  /** Few INNS and few different MARKS, so that ASSES and LOADS meet. */
  private static String validText() {
    StringBuilder b = new StringBuilder(blanks()).append('n');
    int inns = 1 + random.nextInt(5);
    for (int k = 0; k < 5; k++) {
      b.append(random.nextInt(5));
    }
    int asses = 1 + random.nextInt(4);
    for (int i = 0; i < asses; i++) {
      b.append(blanks()).append("agysom".charAt(random.nextInt(6)));
      b.append(two(random.nextInt(16))).append(random.nextInt(inns));
    }
    int loads = 1 + random.nextInt(5);
    for (int l = 0; l < loads; l++) {
      b.append(blanks()).append('l').append(two(random.nextInt(16)));
      b.append(random.nextInt(inns)).append(random.nextInt(5));
    }
    return b.append(blanks()).toString();
  }

  private static String spoilt(String text) {
    String signs = "nagysoml0123456789 x\u00f1/:";
    StringBuilder b = new StringBuilder(text);
    int spot = random.nextInt(b.length());
    char sign = signs.charAt(random.nextInt(signs.length()));
    switch (random.nextInt(5)) {
      case 0: b.setLength(spot); break;
      case 1: b.insert(spot, sign); break;
      case 2: b.deleteCharAt(spot); break;
      case 3: b.append(validText().substring(7)); break;
      default: b.setCharAt(spot, sign);
    }
    return b.length() > 60 ? b.substring(0, 60) : b.toString();
  }

  private static void write(int t, String signs) {
    Due.write(x, t, signs);
    m.text(t, signs.length());
    for (int i = 0; i < signs.length(); i++) {
      m.put(t, i, signs.charAt(i));
    }
  }

  private static void step(String call) {
    int way = random.nextInt(12);
    if (way < 2) {
      shelves(call, random.nextInt(9));
    } else if (way < 3) {
      texts(call, random.nextInt(5));
    } else if (way < 6) {
      deeds(call, random.nextInt(12));
    } else if (way < 8) {
      pairs(call, random.nextInt(3));
    } else {
      questions(call, random.nextInt(19));
    }
  }

  private static void shelves(String call, int which) {
    int r = from(0, 5), i = from(0, 6), to = from(0, 5), j = from(0, 6), n = from(0, 6), v = from(-20, 20);
    switch (which) {
      case 0: same(call + "row(" + r + ", " + n + ")", x.row(r, n), m.row(r, n)); break;
      case 1:
        n = from(0, 40);
        same(call + "row(" + r + ", " + n + ")", x.row(r, n), m.row(r, n));
        break;
      case 2:
      case 3: same(call + "lay(" + r + ", " + i + ", " + v + ")", x.lay(r, i, v), m.lay(r, i, v)); break;
      case 4: same(call + "at(" + r + ", " + i + ")", x.at(r, i), m.at(r, i)); break;
      case 5: same(call + "tear(" + r + ")", x.tear(r), m.tear(r)); break;
      case 6:
      case 7:
        same(call + "copy(" + r + ", " + i + ", " + to + ", " + j + ", " + n + ")",
            x.copy(r, i, to, j, n), m.copy(r, i, to, j, n));
        break;
      default: same(call + "mean(" + r + ")", x.mean(r), m.mean(r));
    }
  }

  private static void texts(String call, int which) {
    int t = from(0, 3), n = from(0, 60), i = from(0, 60), v = from(-200, 300);
    switch (which) {
      case 0: same(call + "text(" + t + ", " + n + ")", x.text(t, n), m.text(t, n)); break;
      case 1: same(call + "put(" + t + ", " + i + ", " + v + ")", x.put(t, i, v), m.put(t, i, v)); break;
      case 2: same(call + "fault(" + t + ")", x.fault(t), m.fault(t)); break;
      case 3:
        write(0, validText());
        same(call + "plain(" + t + ")", x.plain(t), m.plain(t));
        break;
      default:
        write(1, spoilt(validText()));
        same(call + "fault(1)", x.fault(1), m.fault(1));
        if (random.nextInt(3) == 0) {
          same(call + "plain(1)", x.plain(1), m.plain(1));
        }
    }
  }

  private static void deeds(String call, int which) {
    int l = from(0, 4), k = from(0, 3), i = from(0, 3), inn = from(0, 4), n = from(0, 40), place = from(0, 2);
    switch (which) {
      case 0:
      case 1:
      case 2:
      case 3: same(call + "day()", x.day(), m.day()); break;
      case 4:
      case 5: same(call + "smear(" + l + ", " + k + ")", x.smear(l, k), m.smear(l, k)); break;
      case 6:
      case 7: same(call + "lead(" + i + ", " + inn + ")", x.lead(i, inn), m.lead(i, inn)); break;
      case 8: same(call + "undo(" + n + ")", x.undo(n), m.undo(n)); break;
      case 9: same(call + "keep(" + place + ")", x.keep(place), m.keep(place)); break;
      case 10: same(call + "on(" + place + ")", x.on(place), m.on(place)); break;
      default:
        int seed = random.nextBoolean() ? from(1, 50) : random.nextInt();
        n = from(1, 20);
        same(call + "lots(" + n + ", " + seed + ")", x.lots(n, seed), m.lots(n, seed));
    }
  }

  private static void pairs(String call, int which) {
    int i = from(0, 3), r = from(0, 5);
    if (random.nextInt(8) != 0 && r >= 0 && r < 6) {
      int size = random.nextInt(10) == 0 ? random.nextInt(20) : 2 * random.nextInt(5);
      x.row(r, size);
      m.row(r, size);
      char letter = "agysom".charAt(random.nextInt(6));
      int memory = random.nextInt(16);
      boolean wild = random.nextInt(6) == 0;
      for (int k = 0; k < size; k++) {
        int marks = random.nextInt(16);
        int v = k % 2 == 0 ? marks : Model.refuses(letter, memory, m.at(r, k - 1) == 1 ? m.asked : 0) ? 0 : 1;
        v = wild && random.nextInt(4) == 0 ? from(0, 1) : v;
        if (k % 2 == 1) {
          x.at(r, k - 1);
        }
        x.lay(r, k, v);
        m.lay(r, k, v);
      }
    }
    switch (which) {
      case 0: same(call + "memories(" + i + ", " + r + ")", x.memories(i, r), m.memories(i, r)); break;
      case 1: same(call + "kinds(" + i + ", " + r + ")", x.kinds(i, r), m.kinds(i, r)); break;
      default: same(call + "next(" + i + ", " + r + ")", x.next(i, r), m.next(i, r));
    }
  }

  private static void questions(String call, int which) {
    int i = from(0, 3), l = from(0, 4), r = from(0, 5), p = from(0, 12), set = from(0, 15);
    int far = from(0, 60), near = from(0, 20), what = from(0, 10), few = from(0, 4), turns = from(0, 2);
    switch (which) {
      case 0: same(call + "ass(" + i + ", " + few + ")", x.ass(i, few), m.ass(i, few)); break;
      case 1: same(call + "load(" + l + ", " + few + ")", x.load(l, few), m.load(l, few)); break;
      case 2: same(call + "mark(" + i + ", " + few + ")", x.mark(i, few), m.mark(i, few)); break;
      case 3: same(call + "mark(" + i + ", 5)", x.mark(i, 5), m.mark(i, 5)); break;
      case 4: same(call + "like(" + i + ", " + set + ")", x.like(i, set), m.like(i, set)); break;
      case 5: same(call + "who(" + set + ")", x.who(set), m.who(set)); break;
      case 6: same(call + "where(" + l + ", " + far + ")", x.where(l, far), m.where(l, far)); break;
      case 7: same(call + "home()", x.home(), m.home()); break;
      case 8: same(call + "round()", x.round(), m.round()); break;
      case 9:
      case 10: same(call + "marks(" + l + ", " + near + ")", x.marks(l, near), m.marks(l, near)); break;
      case 11: same(call + "match(" + r + ")", x.match(r), m.match(r)); break;
      case 12: same(call + "line(" + i + ", " + l + ", " + r + ")", x.line(i, l, r), m.line(i, l, r)); break;
      case 13: same(call + "cover()", x.cover(), m.cover()); break;
      case 14: same(call + "duel(" + l + ", " + turns + ")", x.duel(l, turns), m.duel(l, turns)); break;
      case 15: same(call + "odds(" + l + ", " + p + ")", x.odds(l, p), m.odds(l, p)); break;
      case 16: same(call + "mid(" + p + ")", x.mid(p), m.mid(p)); break;
      case 17: same(call + "count(" + what + ")", x.count(what), m.count(what)); break;
      default: same(call + "findings(" + turns + ")", x.findings(turns), m.findings(turns));
    }
  }
}
