import java.io.File;
import java.io.PrintWriter;
import java.io.StringWriter;
import java.lang.reflect.Constructor;
import java.lang.reflect.Field;
import java.lang.reflect.Member;
import java.lang.reflect.Method;
import java.lang.reflect.Modifier;
import java.nio.file.Files;
import java.nio.file.Path;
import java.util.ArrayList;
import java.util.Arrays;
import java.util.HashMap;
import java.util.HashSet;
import java.util.List;
import java.util.Map;
import java.util.Optional;
import java.util.Set;
import java.util.TreeSet;
import java.util.regex.Matcher;
import java.util.regex.Pattern;
import java.util.spi.ToolProvider;

/** What ../shared/LANGUAGE.md asks of the program, as far as the source and the compiled code show it. */
public final class LanguageTests {
  private static final String[] FACE = {
    "int row(int,int)", "int lay(int,int,int)", "int at(int,int)", "int tear(int)",
    "int copy(int,int,int,int,int)", "int mean(int)", "int text(int,int)", "int put(int,int,int)",
    "int fault(int)", "int plain(int)", "int ass(int,int)", "int load(int,int)", "int mark(int,int)",
    "int day()", "int smear(int,int)", "int lead(int,int)", "int undo(int)", "int keep(int)",
    "int on(int)", "int like(int,int)", "int who(int)", "int where(int,int)", "int home()",
    "int round()", "int marks(int,int)", "int match(int)", "int line(int,int,int)", "int cover()",
    "int memories(int,int)", "int kinds(int,int)", "int next(int,int)", "int duel(int,int)",
    "int odds(int,int)", "int mid(int)", "int lots(int,int)", "int asked()", "long upper()",
    "long lower()", "int count(int)", "int finding()", "int findings(int)", "long digest()"
  };
  private static final String[] CONSTANTS = {"BAD", "FULL", "FINDING", "STATE", "SPENT", "NONE"};
  private static final Set<String> LIBRARY = Set.of("java/lang/Object.<init>", "java/lang/Math.max",
      "java/lang/Math.min", "java/lang/Integer.bitCount", "java/lang/Long.bitCount",
      "java/lang/System.arraycopy");
  private static final int DEEPEST = 8;
  private static final Due due = new Due();

  public static void main(String[] args) throws Exception {
    face();
    inside();
    source();
    compiled();
    due.end();
  }

  private static String short1(Class<?> type) {
    return type.getSimpleName();
  }

  private static String signature(Method m) {
    List<String> types = new ArrayList<>();
    for (Class<?> type : m.getParameterTypes()) {
      types.add(short1(type));
    }
    return short1(m.getReturnType()) + " " + m.getName() + "(" + String.join(",", types) + ")";
  }

  private static void face() {
    Class<?> c = SmellBurdens.class;
    due.is("rule 1: public final", c.getModifiers(), Modifier.PUBLIC | Modifier.FINAL);
    Set<String> methods = new TreeSet<>();
    for (Method m : c.getDeclaredMethods()) {
      if (!Modifier.isPrivate(m.getModifiers())) {
        due.is("rule 1: public " + m, m.getModifiers(), Modifier.PUBLIC);
        methods.add(signature(m));
      }
    }
    due.holds("rule 1: the face is " + methods, methods.equals(new TreeSet<>(Arrays.asList(FACE))));
    Set<String> constants = new TreeSet<>();
    for (Field f : c.getDeclaredFields()) {
      if (!Modifier.isPrivate(f.getModifiers())) {
        due.is("rule 1: constant " + f, f.getModifiers(), Modifier.PUBLIC | Modifier.STATIC | Modifier.FINAL);
        constants.add(f.getName());
      }
    }
    due.holds("rule 1: constants", constants.equals(new TreeSet<>(Arrays.asList(CONSTANTS))));
    Constructor<?>[] made = c.getDeclaredConstructors();
    due.is("rule 1: one constructor", made.length, 1);
    due.is("rule 1: it is public", made[0].getModifiers(), Modifier.PUBLIC);
    due.is("rule 1: without arguments", made[0].getParameterCount(), 0);
  }

  private static List<Class<?>> classes() {
    List<Class<?>> all = new ArrayList<>();
    all.add(SmellBurdens.class);
    all.addAll(Arrays.asList(SmellBurdens.class.getDeclaredClasses()));
    return all;
  }

  private static void inside() {
    Set<String> publicNames = new HashSet<>();
    for (String s : FACE) {
      publicNames.add(s.substring(s.indexOf(' ') + 1, s.indexOf('(')));
    }
    due.holds("rule 11: some twelve classes", classes().size() <= 12);
    for (Class<?> c : classes()) {
      if (c != SmellBurdens.class) {
        due.holds("rule 2: static " + c, Modifier.isStatic(c.getModifiers()));
        due.holds("rule 1: not public " + c, !Modifier.isPublic(c.getModifiers()) && !Modifier.isProtected(c.getModifiers()));
        due.is("rule 2: none inside " + c, c.getDeclaredClasses().length, 0);
      }
      int fields = 0;
      for (Field f : c.getDeclaredFields()) {
        boolean shared = Modifier.isStatic(f.getModifiers());
        fields += shared ? 0 : 1;
        due.holds("rule 5: final " + f, !shared || Modifier.isFinal(f.getModifiers()) && f.getType().isPrimitive());
        due.holds("rule 3: no double " + f, f.getType() != double.class && f.getType() != float.class);
      }
      due.holds("rule 11: some twenty fields in " + c, fields <= 20);
      for (Method m : c.getDeclaredMethods()) {
        due.holds("rule 11: seven parameters " + m, m.getParameterCount() <= 7);
        boolean own = c == SmellBurdens.class && Modifier.isPublic(m.getModifiers());
        due.holds("rule 1: a name of the face " + m, own || !publicNames.contains(m.getName()));
        due.holds("no bridge " + m, !((Member) m).isSynthetic());
      }
    }
  }

  private static void source() throws Exception {
    Path file = Path.of(System.getProperty("project.root", "."), "src/main/java/SmellBurdens.java");
    String all = Files.readString(file);
    for (int i = 0; i < all.length(); i++) {
      char c = all.charAt(i);
      if (c != '\n' && (c < 32 || c > 126)) {
        due.holds("rule 4: a sign at " + i, false);
      }
    }
    String code = all.replaceAll("(?s)/\\*.*?\\*/", "").replaceAll("//[^\n]*", "");
    String[] words = {"throw", "throws", "try", "catch", "finally", "synchronized", "assert", "instanceof",
      "import", "package", "record", "var", "double", "float", "native", "volatile", "static\\s*\\{"};
    for (String word : words) {
      due.holds("rules 4, 6: " + word, !Pattern.compile("\\b" + word + "(?![A-Za-z])").matcher(code).find());
    }
    due.holds("rule 2: a lambda", !code.contains("->"));
    due.holds("rule 2: a method reference", !code.contains("::"));
    due.holds("rule 10: no text", !code.contains("\""));
    int start = -1;
    String head = "";
    String[] lines = all.split("\n");
    for (int n = 0; n < lines.length; n++) {
      if (lines[n].matches(" {2}( {2})?[a-z].*\\) \\{")) {
        start = n;
        head = lines[n];
      } else if (start >= 0 && lines[n].matches(" {2}( {2})?\\}") && lines[n].indexOf('}') == head.length() - head.stripLeading().length()) {
        due.holds("rule 11: sixty lines in " + head, n - start + 1 <= 60);
        start = -1;
      }
    }
  }

  // ---- the compiled code, as javap tells it

  private static final Map<String, Set<String>> calls = new HashMap<>();

  private static void compiled() throws Exception {
    Optional<ToolProvider> javap = ToolProvider.findFirst("javap");
    if (javap.isEmpty()) {
      System.out.println("no javap here: the compiled code is not looked at");
      return;
    }
    File folder = new File(SmellBurdens.class.getProtectionDomain().getCodeSource().getLocation().toURI());
    for (Class<?> c : classes()) {
      StringWriter told = new StringWriter();
      PrintWriter to = new PrintWriter(told);
      javap.get().run(to, to, "-c", "-p", new File(folder, c.getName() + ".class").getPath());
      readCode(c.getName(), told.toString());
    }
    due.holds("javap told the code", calls.size() > FACE.length);
    for (String method : calls.keySet()) {
      int depth = depthOf(method, new ArrayList<>());
      due.holds("rule 11: " + depth + " deep from " + method, depth <= DEEPEST);
    }
  }

  private static void readCode(String name, String code) {
    Pattern head = Pattern.compile("^ {2}(?:\\S+ )*?([\\w$<>]+)\\(.*\\);$");
    Pattern op = Pattern.compile("^ +\\d+: (\\w+)(?:.*// (?:Interface)?Method (\\S+):.*)?.*$");
    Set<String> forbidden = Set.of("athrow", "invokedynamic", "checkcast", "instanceof", "monitorenter",
        "multianewarray", "invokeinterface");
    Set<String> making = Set.of("new", "newarray", "anewarray");
    String method = "";
    boolean lengthSeen = false;
    boolean choiceSeen = false;
    String before = "";
    for (String line : code.split("\n")) {
      Matcher m = head.matcher(line);
      if (m.matches()) {
        String plainName = m.group(1).equals(name) ? "<init>" : m.group(1);
        method = name + "." + plainName;
        calls.put(method, new HashSet<>());
        lengthSeen = false;
        choiceSeen = false;
        continue;
      }
      due.holds("rule 6: an exception table in " + method, !line.contains("Exception table"));
      m = op.matcher(line);
      if (!m.matches()) {
        continue;
      }
      due.holds("rules 2, 6: " + m.group(1) + " in " + method, !forbidden.contains(m.group(1)));
      String does = m.group(1);
      lengthSeen |= does.equals("arraylength");
      choiceSeen |= does.startsWith("if");
      due.holds("rule 7: " + does + " behind no length in " + method, lengthSeen || !does.matches("[abcdfils]a(load|store)"));
      due.holds("rule 7: " + does + " behind no test in " + method,
          choiceSeen || before.matches("(ldc|[il]const|[bs]ipush).*") || !does.matches("[il](div|rem)"));
      before = does;
      due.holds("the room: " + m.group(1) + " in " + method, !making.contains(m.group(1)) || method.endsWith(".<init>"));
      if (m.group(2) != null) {
        String called = m.group(2).replace("\"", "");
        called = called.contains(".") ? called : name + "." + called;
        due.holds("rule 4: " + called, called.startsWith("SmellBurdens") || LIBRARY.contains(called));
        calls.get(method).add(called);
      }
    }
  }

  /** The method itself counts, and a call of the library too. */
  private static int depthOf(String method, List<String> open) {
    if (open.contains(method)) {
      due.holds("rule 8: recursion " + open + " " + method, false);
      return 1;
    }
    int deepest = 0;
    List<String> more = new ArrayList<>(open);
    more.add(method);
    for (String called : calls.getOrDefault(method, Set.of())) {
      deepest = Math.max(deepest, depthOf(called, more));
    }
    return deepest + 1;
  }
}
