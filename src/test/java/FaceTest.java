import java.lang.reflect.Field;
import java.lang.reflect.Method;
import java.lang.reflect.Modifier;
import java.nio.file.Files;
import java.nio.file.Path;
import java.util.List;
import java.util.Set;
import java.util.TreeSet;

/** The face of the document (rule 1 of LANGUAGE.md); LanguageTest has the other rules. */
public final class FaceTest {
  private static final String FACE = "row/2 lay/3 at/2 tear/1 copy/5 mean/1 text/2 put/3 fault/1 family/1 saying/2 mark/2 "
    + "bears/1 say/2 day/0 undo/1 keep/1 on/1 can/1 over/1 talk/1 waits/2 settle/2 least/2 rows/2 stuck/0 way/2 cuts/2 "
    + "round/2 never/1 next/1 kinds/4 duel/2 opens/2 mid/2 odds/4 lots/2 asked/0 count/1 finding/0 findings/1 "
    + "upper/0L lower/0L digest/0L";

  private static int wrong = 0;

  private static void that(String what, boolean holds) {
    if (!holds) {
      wrong++;
      System.out.println("not so: " + what);
    }
  }

  public static void main(String[] args) throws Exception {
    face();
    constants();
    nested();
    words();
    System.out.println(wrong == 0 ? "the face is as told" : wrong + " wrong");
    if (wrong != 0) System.exit(1);
  }

  private static void face() {
    Set<String> due = new TreeSet<>(List.of(FACE.split(" ")));
    Set<String> open = new TreeSet<>();
    Set<String> names = new TreeSet<>();
    for (String one : due) names.add(one.substring(0, one.indexOf('/')));
    for (Method m : StuckDoor.class.getDeclaredMethods()) {
      if (m.isSynthetic()) continue;
      that(m + " has seven parameters at most", m.getParameterCount() <= 7);
      if (Modifier.isPrivate(m.getModifiers())) {
        that(m + " bears no public name", !names.contains(m.getName()));
        continue;
      }
      that(m + " is public, not static", Modifier.isPublic(m.getModifiers()) && !Modifier.isStatic(m.getModifiers()));
      for (Class<?> p : m.getParameterTypes()) that(m + " takes ints", p == int.class);
      open.add(m.getName() + "/" + m.getParameterCount() + (m.getReturnType() == long.class ? "L" : ""));
      that(m + " answers a number", m.getReturnType() == int.class || m.getReturnType() == long.class);
    }
    that("the methods of the document: " + open, open.equals(due));
    that("the class is public and final", (StuckDoor.class.getModifiers() & (Modifier.PUBLIC | Modifier.FINAL)) == (Modifier.PUBLIC | Modifier.FINAL));
    that("one constructor", StuckDoor.class.getConstructors().length == 1 && StuckDoor.class.getDeclaredConstructors().length == 1);
  }

  private static void constants() throws Exception {
    String[] names = {"BAD", "FULL", "FINDING", "STATE", "SPENT", "NONE"};
    int[] values = {-1, -2, -3, -4, -6, -9};
    int open = 0;
    int fields = 0;
    for (Field f : StuckDoor.class.getDeclaredFields()) {
      if (!Modifier.isPrivate(f.getModifiers())) open++;
      if (!Modifier.isStatic(f.getModifiers())) fields++;
      that(f + ": static fields are final", !Modifier.isStatic(f.getModifiers()) || Modifier.isFinal(f.getModifiers()));
    }
    that("six open constants alone", open == names.length);
    that("some twenty fields", fields <= 20);
    for (int i = 0; i < names.length; i++) that(names[i], StuckDoor.class.getField(names[i]).getInt(null) == values[i]);
  }

  private static void nested() {
    Class<?>[] all = StuckDoor.class.getDeclaredClasses();
    that("some twelve classes", all.length + 1 <= 12);
    Set<String> names = new TreeSet<>();
    for (Method m : StuckDoor.class.getMethods()) if (m.getDeclaringClass() == StuckDoor.class) names.add(m.getName());
    for (Class<?> c : all) {
      that(c + " is static, not public", Modifier.isStatic(c.getModifiers()) && !Modifier.isPublic(c.getModifiers()));
      int fields = 0;
      for (Field f : c.getDeclaredFields()) {
        if (!Modifier.isStatic(f.getModifiers())) fields++;
        else that(f + " is final", Modifier.isFinal(f.getModifiers()));
      }
      that(c + " has some twenty fields", fields <= 20);
      for (Method m : c.getDeclaredMethods()) {
        that(m + " has seven parameters at most", m.getParameterCount() <= 7);
        that(m + " bears no public name", !names.contains(m.getName()));
      }
    }
  }

  /** Each line of the document's face, the names of parameters too, stands in the source. */
  private static void words() throws Exception {
    List<String> source = Files.readAllLines(Path.of("src/main/java/StuckDoor.java"));
    boolean isFace = false;
    int seen = 0;
    for (String line : Files.readAllLines(Path.of("../shared/DOC.md"))) {
      if (line.startsWith("```")) isFace = line.equals("```java");
      if (!isFace || !line.contains("public")) continue;
      String due = line.matches(".*\\);") ? line.substring(0, line.length() - 1) + " {" : line;
      that("the source has '" + due + "'", source.contains(due));
      seen++;
    }
    that("the document has a face", seen == 2 + 1 + FACE.split(" ").length);
  }
}
