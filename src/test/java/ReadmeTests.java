import java.io.ByteArrayOutputStream;
import java.io.PrintStream;
import java.lang.reflect.Field;
import java.lang.reflect.Method;
import java.lang.reflect.Modifier;
import java.net.URL;
import java.net.URLClassLoader;
import java.nio.charset.StandardCharsets;
import java.nio.file.Files;
import java.nio.file.Path;
import java.util.Collections;
import java.util.List;
import java.util.Optional;
import java.util.regex.Matcher;
import java.util.regex.Pattern;
import java.util.spi.ToolProvider;

/** README.md: its program prints what it says, and no call, constant or test of the project is left out. */
public final class ReadmeTests {
  private static final String WALK = "Walk";
  private static final Due due = new Due();
  private static Path root;
  private static String page;

  public static void main(String[] args) throws Exception {
    root = Path.of(System.getProperty("project.root", "."));
    page = Files.readString(root.resolve("README.md"));
    calls();
    constants();
    tests();
    program();
    due.end();
  }

  /** What stands between a fence with a name and the next fence. */
  private static String block(String name) {
    Matcher m = Pattern.compile("(?s)```" + name + "\n(.*?)```").matcher(page);
    return m.find() ? m.group(1) : "";
  }

  private static String behind(String heading, String next) {
    int from = page.indexOf(heading);
    int to = page.indexOf(next, from + 1);
    return from < 0 || to < from ? "" : page.substring(from, to);
  }

  private static void calls() {
    String table = behind("### The calls", "## How to run");
    int named = 0;
    for (Method m : SmellBurdens.class.getDeclaredMethods()) {
      if (Modifier.isPublic(m.getModifiers())) {
        String argument = "[a-z]+";
        String all = String.join(", ", Collections.nCopies(m.getParameterCount(), argument));
        boolean found = Pattern.compile("`" + m.getName() + "\\(" + all + "\\)`").matcher(table).find();
        due.holds("README.md tells " + m, found);
        named++;
      }
    }
    due.is("as many calls as are named", Pattern.compile("`[a-z]+\\([a-z, ]*\\)`").matcher(table).results().count(), named);
  }

  private static void constants() throws Exception {
    for (Field f : SmellBurdens.class.getDeclaredFields()) {
      if (Modifier.isPublic(f.getModifiers())) {
        String line = "| `" + f.getName() + "` | " + f.getInt(null) + " |";
        due.holds("README.md tells " + line, page.contains(line));
      }
    }
  }

  private static void tests() throws Exception {
    String told = page.substring(Math.max(0, page.indexOf("## How to run the tests")));
    due.holds("README.md tells how to run the tests", told.contains(".ci/run"));
    try (var files = Files.list(root.resolve("src/test/java"))) {
      for (Path path : (Iterable<Path>) files::iterator) {
        String file = path.getFileName().toString();
        if (file.endsWith("Tests.java")) {
          String name = file.substring(0, file.length() - ".java".length());
          String shown = name.matches("Edge\\w+Tests") ? "Edge..Tests" : name;
          due.holds("README.md tells " + name, told.contains("- `" + shown + "`:"));
        }
      }
    }
  }

  /** The program of the page is compiled and run as the page says. */
  private static void program() throws Exception {
    String source = block("java");
    String want = block("text");
    due.holds("README.md shows a program", source.contains("class " + WALK));
    due.holds("README.md shows what it prints", !want.isEmpty());
    Optional<ToolProvider> javac = ToolProvider.findFirst("javac");
    if (javac.isEmpty()) {
      due.holds("javac is here", false);
      return;
    }
    Path folder = Files.createTempDirectory("readme");
    Path file = folder.resolve(WALK + ".java");
    Files.writeString(file, source);
    int wrong = javac.get().run(System.out, System.err, "-d", folder.toString(),
        root.resolve("src/main/java/SmellBurdens.java").toString(), file.toString());
    due.is("README.md: javac", wrong, 0);
    if (wrong == 0) {
      List<String> got = printed(folder).lines().toList();
      List<String> lines = want.lines().toList();
      due.is("README.md: lines printed", got.size(), lines.size());
      for (int n = 0; n < Math.min(got.size(), lines.size()); n++) {
        due.holds("README.md says '" + lines.get(n) + "', printed was '" + got.get(n) + "'", got.get(n).equals(lines.get(n)));
      }
    }
    drop(folder);
  }

  private static String printed(Path folder) throws Exception {
    PrintStream ahead = System.out;
    ByteArrayOutputStream told = new ByteArrayOutputStream();
    URL[] from = {folder.toUri().toURL()};
    try (URLClassLoader loader = new URLClassLoader(from, ClassLoader.getPlatformClassLoader())) {
      System.setOut(new PrintStream(told, true, StandardCharsets.UTF_8));
      loader.loadClass(WALK).getMethod("main", String[].class).invoke(null, (Object) new String[0]);
    } finally {
      System.setOut(ahead);
    }
    return told.toString(StandardCharsets.UTF_8);
  }

  private static void drop(Path folder) throws Exception {
    try (var files = Files.list(folder)) {
      for (Path path : (Iterable<Path>) files::iterator) {
        Files.delete(path);
      }
    }
    Files.delete(folder);
  }
}
