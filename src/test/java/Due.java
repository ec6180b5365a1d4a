/** What the project's tests share: counting wrong answers, and writing TEXTS and ROWS. */
final class Due {
  private int asked = 0;
  private int wrong = 0;

  void is(String call, long got, long want) {
    asked++;
    if (got != want) {
      wrong++;
      System.out.println(call + " answered " + got + ", due is " + want);
    }
  }

  void holds(String what, boolean so) {
    is(what, so ? 1 : 0, 1);
  }

  /** Says how it went; exit code 1 if an answer was wrong, or none was looked at. */
  void end() {
    System.out.println(asked + " answers, " + wrong + " of them not as due");
    if (wrong != 0 || asked == 0) {
      System.exit(1);
    }
  }

  static void write(SmellBurdens x, int t, String signs) {
    x.text(t, signs.length());
    for (int i = 0; i < signs.length(); i++) {
      x.put(t, i, signs.charAt(i));
    }
  }

  static SmellBurdens with(String signs) {
    SmellBurdens x = new SmellBurdens();
    write(x, 0, signs);
    x.plain(0);
    return x;
  }

  static void fill(SmellBurdens x, int r, int... values) {
    x.row(r, values.length);
    for (int i = 0; i < values.length; i++) {
      x.lay(r, i, values[i]);
    }
  }
}
