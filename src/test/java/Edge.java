import java.lang.reflect.Method;
import java.util.ArrayList;
import java.util.Comparator;
import java.util.List;
import java.util.function.IntSupplier;
import java.util.function.IntUnaryOperator;
import java.util.function.Supplier;

/**
 * What the tests of single sentences (Edge..Tests) share. Each of their tests is a static method
 * that tells by Holds which words of the document it holds; DocumentTests looks that none is left out.
 */
final class Edge {
  static final int BAD = -1, FULL = -2, FINDING = -3, STATE = -4, SPENT = -6, NONE = -9;
  static final int NOTHING = 1, BEYOND = 2, UNLIKE = 3, NOUGHT = 4, SIZE = 5;
  static final int LEAST = Integer.MIN_VALUE, MOST = Integer.MAX_VALUE;
  static final Class<?>[] CLASSES = {EdgeTermTests.class, EdgeTextTests.class, EdgeShelfTests.class,
    EdgePlainTests.class, EdgeDeedTests.class, EdgeDayTests.class, EdgeWallTests.class,
    EdgeGuessTests.class, EdgeChanceTests.class, EdgeToldTests.class};
  /** One ASS that goes INN by INN with its LOAD, which is at HOME behind four DAYS. */
  static final String WALK = "n12340a050l0504";
  private static final int LATEST_AT = 4;
  private static final Due due = new Due();
  private static String test = "";

  private Edge() {
  }

  static List<Method> testsOf(Class<?> tests) {
    List<Method> found = new ArrayList<>();
    for (Method m : tests.getDeclaredMethods()) {
      if (m.isAnnotationPresent(Holds.class)) {
        found.add(m);
      }
    }
    found.sort(Comparator.comparingInt((Method m) -> m.getAnnotation(Holds.class).promise())
        .thenComparing(Method::getName));
    return found;
  }

  static void run(Class<?> tests) throws Exception {
    for (Method m : testsOf(tests)) {
      test = "promise " + m.getAnnotation(Holds.class).promise() + ", " + m.getName() + ": ";
      m.invoke(null);
    }
    due.end();
  }

  static void is(String call, long got, long want) {
    due.is(test + call, got, want);
  }

  /** All that can be looked at without a change. */
  private static long[] shows(SmellBurdens x) {
    return new long[] {x.digest(), x.asked(), x.upper(), x.lower(), x.finding(), x.findings(1),
      x.findings(2), x.findings(3), x.findings(4), x.findings(5)};
  }

  private static void showsAs(String call, long[] got, long[] want) {
    String[] names = {"digest()", "asked()", "upper()", "lower()", "finding()", "findings(1)",
      "findings(2)", "findings(3)", "findings(4)", "findings(5)"};
    for (int n = 0; n < want.length; n++) {
      is(call + ", then " + names[n], got[n], want[n]);
    }
  }

  /** An answer that is due while nothing at all changes: a refusal without a FINDING, a question aside. */
  static void still(String call, SmellBurdens x, int want, IntSupplier ask) {
    long[] before = shows(x);
    is(call, ask.getAsInt(), want);
    showsAs(call, shows(x), before);
  }

  /** A refusal by a FINDING: it is told, and counted; nothing else changes. */
  static void found(String call, SmellBurdens x, int finding, IntSupplier ask) {
    long[] before = shows(x);
    is(call, ask.getAsInt(), FINDING);
    before[LATEST_AT] = finding;
    before[LATEST_AT + finding]++;
    showsAs(call, shows(x), before);
  }

  static void told(String call, SmellBurdens x, int answer, int want) {
    is(call, answer, 1);
    is(call + ", then asked()", x.asked(), want);
  }

  static void fraction(String call, SmellBurdens x, int answer, long upper, long lower) {
    is(call, answer, 1);
    is(call + ", then upper()", x.upper(), upper);
    is(call + ", then lower()", x.lower(), lower);
  }

  static void rowIs(String call, SmellBurdens x, int r, int... want) {
    for (int i = 0; i < want.length; i++) {
      told(call + ", then place " + i, x, x.at(r, i), want[i]);
    }
    is(call + ", then a place behind the last", x.at(r, want.length), FINDING);
    is(call + ", then finding()", x.finding(), BEYOND);
  }

  /** The numbers just outside, and the farthest outside, are BAD, and nothing changes. */
  static void badOutside(String call, SmellBurdens x, int low, int high, IntUnaryOperator ask) {
    int[] outside = {low - 1, high + 1, LEAST, MOST};
    for (int v : outside) {
      still(call + " with " + v, x, BAD, () -> ask.applyAsInt(v));
    }
  }

  /** The first and the last number are taken: no refusal is answered. */
  static void takenInside(String call, int answerOfFirst, int answerOfLast) {
    is(call + " takes the first", answerOfFirst >= 0 || answerOfFirst == NONE ? 1 : 0, 1);
    is(call + " takes the last", answerOfLast >= 0 || answerOfLast == NONE ? 1 : 0, 1);
  }

  /** A PLAIN with its forty DEEDS done. */
  static SmellBurdens full(String signs) {
    SmellBurdens x = Due.with(signs);
    for (int d = 0; d < 40; d++) {
      x.day();
    }
    return x;
  }

  /** A state with ROWS, TEXTS, DEEDS, kept PLAINS, a fraction and something told. */
  static SmellBurdens rich() {
    SmellBurdens x = Due.with("n12340a050g130y002s110 l0504l0701l1202l1500l0331");
    Due.fill(x, 0, 5, -6, 7);
    Due.fill(x, 4);
    x.text(2, 3);
    x.keep(1);
    x.day();
    x.smear(2, 1);
    x.keep(0);
    x.lead(3, 4);
    x.day();
    x.mid(5);
    x.at(0, 1);
    return x;
  }

  /** The same object made twice: what is asked of the one can be compared with the other. */
  static void asUntouched(String call, SmellBurdens x, Supplier<SmellBurdens> again) {
    SmellBurdens y = again.get();
    is(call + ", then digest()", x.digest(), y.digest());
    for (int n = y.count(3); n >= 0; n--) {
      x.undo(n);
      y.undo(n);
      is(call + ", then digest() by " + n + " DEEDS", x.digest(), y.digest());
    }
    for (int k = 0; k < 3; k++) {
      is(call + ", then on(" + k + ")", x.on(k), y.on(k));
      is(call + ", then digest() of what was kept", x.digest(), y.digest());
      x.undo(0);
      y.undo(0);
      is(call + ", then digest() ahead of that", x.digest(), y.digest());
    }
  }
}
