import java.lang.reflect.Array;
import java.lang.reflect.Field;
import java.lang.reflect.Method;
import java.lang.reflect.Modifier;
import java.net.URL;
import java.net.URLClassLoader;
import java.nio.file.Files;
import java.nio.file.Path;
import java.util.ArrayList;
import java.util.Collections;
import java.util.IdentityHashMap;
import java.util.List;
import java.util.Set;
import java.util.TreeSet;
import java.util.regex.Matcher;
import java.util.regex.Pattern;
import java.util.stream.Stream;
import javax.tools.ToolProvider;

/** What README.md says of the class and of the tests holds: its code answers as told, its tables, its lists. */
public final class ReadmeTest {
  /** A call with its answer: a number, or the name of a constant. */
  private static final Pattern CALL = Pattern.compile("(d\\.\\w+\\(.*\\));\\s*// (-?\\d+|[A-Z]+)\\b.*");
  private static final Pattern NAMED = Pattern.compile("`(\\w+)`");

  private static int checks = 0;
  private static int wrong = 0;

  private static void that(String what, boolean holds) {
    checks++;
    if (!holds) {
      wrong++;
      System.out.println("README.md: " + what);
    }
  }

  /** The code of README.md calls this for each call that it tells an answer of. */
  public static void due(String call, long got, long due) {
    that(call + " answered " + got + ", told is " + due, got == due);
  }

  public static void main(String[] args) throws Exception {
    List<String> lines = Files.readAllLines(Path.of("README.md"));
    String all = String.join("\n", lines);
    codeAnswersAsTold(codeOf(lines));
    answersOfTheTable(lines);
    namesUnder("### All calls", all, faceOf());
    Set<String> nested = new TreeSet<>();
    for (Class<?> c : StuckDoor.class.getDeclaredClasses()) nested.add(c.getSimpleName());
    namesUnder("## How it is built", all, nested);
    testsAreListed(all);
    sizeOfAnObject(all);
    that("an object is used for at most 512 calls", all.contains("**An object is used for at most 512 calls**"));
    System.out.println(checks + " checks, " + wrong + " wrong");
    if (wrong != 0) System.exit(1);
  }

  private static List<String> codeOf(List<String> lines) {
    List<String> code = new ArrayList<>();
    boolean isCode = false;
    for (String line : lines) {
      if (line.startsWith("```")) isCode = line.equals("```java");
      else if (isCode) code.add(line);
    }
    that("there is code", code.size() > 40);
    return code;
  }

  private static void codeAnswersAsTold(List<String> code) throws Exception {
    StringBuilder source = new StringBuilder("public final class ReadmeRun {\n  public static void run() {\n");
    for (String line : code) {
      Matcher call = CALL.matcher(line);
      boolean isCall = call.matches();
      that("'" + line + "' tells its answer", isCall || !line.startsWith("d."));
      if (isCall) {
        String due = call.group(2).matches("-?\\d+") ? call.group(2) : "StuckDoor." + call.group(2);
        String told = call.group(1).replace("\"", "\\\"");
        source.append("ReadmeTest.due(\"").append(told).append("\", ").append(call.group(1)).append(", ").append(due).append(");\n");
      } else {
        source.append(line).append('\n');
      }
    }
    source.append("  }\n}\n");
    Path dir = Files.createTempDirectory("readme");
    Path file = dir.resolve("ReadmeRun.java");
    Files.writeString(file, source);
    int failed = ToolProvider.getSystemJavaCompiler().run(null, null, null, "-cp", System.getProperty("java.class.path"),
      "-d", dir.toString(), file.toString());
    that("its code compiles", failed == 0);
    if (failed == 0) {
      try (URLClassLoader loader = new URLClassLoader(new URL[] {dir.toUri().toURL()}, ReadmeTest.class.getClassLoader())) {
        loader.loadClass("ReadmeRun").getMethod("run").invoke(null);
      }
    }
    for (String name : List.of("ReadmeRun.class", "ReadmeRun.java")) Files.deleteIfExists(dir.resolve(name));
    Files.deleteIfExists(dir);
  }

  private static void answersOfTheTable(List<String> lines) throws Exception {
    Pattern row = Pattern.compile("\\| `([A-Z]+)` \\| (-\\d+) \\|.*");
    int seen = 0;
    for (String line : lines) {
      Matcher m = row.matcher(line);
      if (!m.matches()) continue;
      seen++;
      that(line, StuckDoor.class.getField(m.group(1)).getInt(null) == Integer.parseInt(m.group(2)));
    }
    that("five refusals", seen == 5);
    that("NONE is -9", StuckDoor.NONE == -9 && String.join(" ", lines).contains("`NONE` (-9)"));
  }

  private static Set<String> faceOf() {
    Set<String> names = new TreeSet<>();
    for (Method m : StuckDoor.class.getDeclaredMethods()) if (Modifier.isPublic(m.getModifiers())) names.add(m.getName());
    return names;
  }

  /** The names in `` under a heading, up to the next one, are just these. */
  private static void namesUnder(String heading, String all, Set<String> due) {
    int from = all.indexOf("\n" + heading + "\n");
    that("has " + heading, from >= 0);
    if (from < 0) return;
    int to = all.indexOf("\n#", from + heading.length());
    Set<String> names = new TreeSet<>();
    Matcher m = NAMED.matcher(all.substring(from, to < 0 ? all.length() : to));
    while (m.find()) that(m.group(1) + " stands once under " + heading, names.add(m.group(1)));
    that(heading + " names " + names + ", there are " + due, names.equals(due));
  }

  private static void testsAreListed(String all) throws Exception {
    Set<String> there = new TreeSet<>();
    try (Stream<Path> files = Files.list(Path.of("src/test/java"))) {
      files.forEach(file -> there.add(file.getFileName().toString().replace(".java", "")));
    }
    Set<String> told = new TreeSet<>();
    Matcher m = Pattern.compile("`(\\w+Test)`").matcher(all);
    while (m.find()) told.add(m.group(1));
    that("tells of the tests " + told + ", there are " + there, told.equals(there));
    for (String path : List.of(".ci/run", "src/test/support/Edges.java", "src/test/java/PromisesTest.java", "src/main/java/StuckDoor.java")) {
      that(path + " is told and there", all.contains(path) && Files.exists(Path.of(path)));
    }
    that(".ci/run can be run", Files.isExecutable(Path.of(".ci/run")));
  }

  // ---- how much one object holds

  private static int objects = 0;
  private static int elements = 0;
  private static final Set<Object> SEEN = Collections.newSetFromMap(new IdentityHashMap<>());

  private static void sizeOfAnObject(String all) throws Exception {
    weigh(new StuckDoor());
    Matcher m = Pattern.compile("some (\\d+) objects and arrays with some (\\d+) fields and elements").matcher(all);
    boolean isTold = m.find();
    that("an object is " + objects + " objects, " + elements + " fields and elements", isTold
      && Math.abs(objects - Integer.parseInt(m.group(1))) <= objects / 10
      && Math.abs(elements - Integer.parseInt(m.group(2))) <= elements / 10);
  }

  private static void weigh(Object one) throws Exception {
    if (one == null || !SEEN.add(one)) return;
    objects++;
    if (one.getClass().isArray()) {
      elements += Array.getLength(one);
      boolean isOfObjects = !one.getClass().getComponentType().isPrimitive();
      for (int i = 0; isOfObjects && i < Array.getLength(one); i++) weigh(Array.get(one, i));
      return;
    }
    for (Field f : one.getClass().getDeclaredFields()) {
      if (Modifier.isStatic(f.getModifiers())) continue;
      elements++;
      f.setAccessible(true);
      if (!f.getType().isPrimitive()) weigh(f.get(one));
    }
  }
}
