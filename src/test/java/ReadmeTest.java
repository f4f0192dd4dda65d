import java.io.File;
import java.lang.reflect.Method;
import java.net.URL;
import java.net.URLClassLoader;
import java.nio.file.Files;
import java.nio.file.Path;
import java.util.Set;
import java.util.TreeSet;
import java.util.regex.Matcher;
import java.util.regex.Pattern;
import javax.tools.ToolProvider;

/** What README.md says of the use of the class and of the running of its tests, tried. */
public final class ReadmeTest {
  private static final Pattern ANSWERED = Pattern.compile("(?:int (\\w+) = )?(yard\\.\\w+\\(.*\\)); *// (-?\\d+)(:.*)?");
  private static int wrong = 0;

  private static void fault(String text) {
    wrong++;
    System.out.println("README.md: " + text);
  }

  /** Called by the class that is made of the example. */
  public static void due(String call, long got, long told) {
    if (got != told) fault(call + " answered " + got + ", told is " + told);
  }

  public static void main(String[] args) throws Exception {
    String page = Files.readString(Path.of("README.md"));
    Path made = Files.createTempDirectory("readme");
    try {
      example(block(page, "java"), made);
      commands(block(page, "sh"), made);
    } finally {
      remove(made.toFile());
    }
    calls(page);
    testFiles(page);
    script(page);
    System.out.println(wrong == 0 ? "README.md says what is so" : wrong + " faults of README.md");
    if (wrong != 0) System.exit(1);
  }

  private static String block(String page, String kind) {
    Matcher m = Pattern.compile("(?s)```" + kind + "\n(.*?)```").matcher(page);
    if (m.find()) return m.group(1);
    fault("no block of " + kind);
    return "";
  }

  /** Compiles the example as it stands, but that each answer is compared with the one that is told. */
  private static void example(String block, Path made) throws Exception {
    StringBuilder code = new StringBuilder("public final class Example {\n  public static void run() {\n");
    int answers = 0;
    for (String line : block.split("\n")) {
      Matcher m = ANSWERED.matcher(line);
      if (m.matches()) {
        answers++;
        String value = m.group(1) == null ? m.group(2) : m.group(1);
        if (m.group(1) != null) code.append(line).append('\n');
        code.append("ReadmeTest.due(\"").append(m.group(2)).append("\", ").append(value).append(", ").append(m.group(3)).append("L);\n");
      } else {
        if (!line.equals("HopYard yard = new HopYard();")) fault("no answer is told: " + line);
        code.append(line).append('\n');
      }
    }
    if (answers < 10) fault("only " + answers + " calls in the example");
    Path source = made.resolve("Example.java");
    Files.writeString(source, code.append("  }\n}\n"));
    String path = System.getProperty("java.class.path");
    if (ToolProvider.getSystemJavaCompiler().run(null, null, null, "-cp", path, "-d", made.toString(), source.toString()) != 0) {
      fault("the example does not compile");
      return;
    }
    try (URLClassLoader loader = new URLClassLoader(new URL[] {made.toUri().toURL()}, ReadmeTest.class.getClassLoader())) {
      loader.loadClass("Example").getMethod("run").invoke(null);
    }
  }

  /** Runs the commands as they stand, but that what they make goes elsewhere. */
  private static void commands(String block, Path made) throws Exception {
    String elsewhere = block.replaceAll("\\bbuild\\b", made.resolve("build").toString());
    if (elsewhere.equals(block)) fault("the commands do not name the directory build");
    Process p = new ProcessBuilder("sh", "-e", "-c", elsewhere).redirectErrorStream(true).start();
    String said = new String(p.getInputStream().readAllBytes());
    if (p.waitFor() != 0) fault("the commands fail: " + said);
    if (!Files.readString(Path.of(".gitignore")).contains("/build/")) fault("what the commands make is not in .gitignore");
  }

  /** Each call of the face stands in the table, and nothing else does. */
  private static void calls(String page) {
    Set<String> face = new TreeSet<>();
    for (Method m : HopYard.class.getMethods()) {
      if (m.getDeclaringClass() == HopYard.class) face.add(m.getName());
    }
    Set<String> named = new TreeSet<>();
    for (String line : page.split("\n")) {
      if (!line.startsWith("| `")) continue;
      Matcher m = Pattern.compile("`(\\w+)`").matcher(line.substring(0, line.indexOf('|', 1)));
      while (m.find()) if (!named.add(m.group(1))) fault("twice in the table: " + m.group(1));
    }
    if (!named.equals(face)) fault("the table has " + named + ", the face " + face);
    String constants = "`BAD` (" + HopYard.BAD + "), `STATE` (" + HopYard.STATE + "), `FULL` (" + HopYard.FULL + ")";
    if (!page.contains(constants) || !page.contains("`NONE` (" + HopYard.NONE + ")")) fault("the constants are told otherwise");
  }

  private static void testFiles(String page) {
    Set<String> there = new TreeSet<>();
    for (File f : new File("src/test/java").listFiles()) there.add("src/test/java/" + f.getName());
    Set<String> listed = new TreeSet<>();
    Matcher m = Pattern.compile("(?m)^- `(src/test/java/\\w+\\.java)`: ").matcher(page);
    while (m.find()) listed.add(m.group(1));
    if (!listed.equals(there)) fault("the list has " + listed + ", there are " + there);
    if (!page.contains("`src/test/support/`") || !new File("src/test/support").isDirectory()) fault("src/test/support is told otherwise");
  }

  private static void script(String page) {
    if (!page.contains("\n    .ci/run\n") || !new File(".ci/run").canExecute()) fault(".ci/run is not told, or can't be run");
  }

  private static void remove(File file) {
    File[] inside = file.listFiles();
    if (inside != null) for (File f : inside) remove(f);
    file.delete();
  }
}
