import java.lang.reflect.Field;
import java.lang.reflect.Method;
import java.lang.reflect.Modifier;
import java.nio.charset.StandardCharsets;
import java.nio.file.Files;
import java.nio.file.Path;
import java.util.ArrayList;
import java.util.List;
import java.util.Set;
import java.util.TreeSet;
import java.util.regex.Matcher;
import java.util.regex.Pattern;

/** The face of the document and those rules of LANGUAGE.md that can be seen by a plain look. */
public final class RulesTest {
  private static final String FACE = "row/2 lay/3 at/2 tear/1 copy/5 mean/1 text/2 put/3 fault/1 family/1 saying/2 mark/2 "
    + "bears/1 say/2 day/0 undo/1 keep/1 on/1 can/1 over/1 talk/1 waits/2 settle/2 least/2 rows/2 stuck/0 way/2 cuts/2 "
    + "round/2 never/1 next/1 kinds/4 duel/2 opens/2 mid/2 odds/4 lots/2 asked/0 count/1 finding/0 findings/1 "
    + "upper/0L lower/0L digest/0L";
  private static final String[] BANNED = {"\\bthrow\\b", "\\btry\\b", "\\bcatch\\b", "\\bsynchronized\\b", "\\bassert\\b", "->",
    "::", "Exact\\b", "\\bSystem\\.(?!arraycopy)", "\\bThread\\b", "\\bRandom\\b", "\\bObject\\b", "\\bstatic \\{",
    "^package\\b", "\\bimport (?!java\\.util\\.Arrays;)"};

  private static int wrong = 0;

  private static void that(String what, boolean holds) {
    if (!holds) {
      wrong++;
      System.out.println("not so: " + what);
    }
  }

  public static void main(String[] args) throws Exception {
    face();
    constants();
    nested();
    source();
    System.out.println(wrong == 0 ? "the rules are kept" : wrong + " rules are not kept");
    if (wrong != 0) System.exit(1);
  }

  private static void face() {
    Set<String> due = new TreeSet<>(List.of(FACE.split(" ")));
    Set<String> open = new TreeSet<>();
    Set<String> names = new TreeSet<>();
    for (String one : due) names.add(one.substring(0, one.indexOf('/')));
    for (Method m : StuckDoor.class.getDeclaredMethods()) {
      if (m.isSynthetic()) continue;
      that(m + " has seven parameters at most", m.getParameterCount() <= 7);
      if (Modifier.isPrivate(m.getModifiers())) {
        that(m + " bears no public name", !names.contains(m.getName()));
        continue;
      }
      that(m + " is public, not static", Modifier.isPublic(m.getModifiers()) && !Modifier.isStatic(m.getModifiers()));
      for (Class<?> p : m.getParameterTypes()) that(m + " takes ints", p == int.class);
      open.add(m.getName() + "/" + m.getParameterCount() + (m.getReturnType() == long.class ? "L" : ""));
      that(m + " answers a number", m.getReturnType() == int.class || m.getReturnType() == long.class);
    }
    that("the methods of the document: " + open, open.equals(due));
    that("the class is public and final", (StuckDoor.class.getModifiers() & (Modifier.PUBLIC | Modifier.FINAL)) == (Modifier.PUBLIC | Modifier.FINAL));
    that("one constructor", StuckDoor.class.getConstructors().length == 1 && StuckDoor.class.getDeclaredConstructors().length == 1);
  }

  private static void constants() throws Exception {
    String[] names = {"BAD", "FULL", "FINDING", "STATE", "SPENT", "NONE"};
    int[] values = {-1, -2, -3, -4, -6, -9};
    int open = 0;
    int fields = 0;
    for (Field f : StuckDoor.class.getDeclaredFields()) {
      if (!Modifier.isPrivate(f.getModifiers())) open++;
      if (!Modifier.isStatic(f.getModifiers())) fields++;
      that(f + ": static fields are final", !Modifier.isStatic(f.getModifiers()) || Modifier.isFinal(f.getModifiers()));
    }
    that("six open constants alone", open == names.length);
    that("some twenty fields", fields <= 20);
    for (int i = 0; i < names.length; i++) that(names[i], StuckDoor.class.getField(names[i]).getInt(null) == values[i]);
  }

  private static void nested() {
    Class<?>[] all = StuckDoor.class.getDeclaredClasses();
    that("some twelve classes", all.length + 1 <= 12);
    Set<String> names = new TreeSet<>();
    for (Method m : StuckDoor.class.getMethods()) if (m.getDeclaringClass() == StuckDoor.class) names.add(m.getName());
    for (Class<?> c : all) {
      that(c + " is static, not public", Modifier.isStatic(c.getModifiers()) && !Modifier.isPublic(c.getModifiers()));
      int fields = 0;
      for (Field f : c.getDeclaredFields()) {
        if (!Modifier.isStatic(f.getModifiers())) fields++;
        else that(f + " is final", Modifier.isFinal(f.getModifiers()));
      }
      that(c + " has some twenty fields", fields <= 20);
      for (Method m : c.getDeclaredMethods()) {
        that(m + " has seven parameters at most", m.getParameterCount() <= 7);
        that(m + " bears no public name", !names.contains(m.getName()));
      }
    }
  }

  private static void source() throws Exception {
    Path file = Path.of("src/main/java/StuckDoor.java");
    String all = Files.readString(file, StandardCharsets.ISO_8859_1);
    for (int i = 0; i < all.length(); i++) that("plain signs alone", all.charAt(i) == '\n' || all.charAt(i) >= 32 && all.charAt(i) < 127);
    String code = all.replaceAll("(?s)/\\*.*?\\*/", "").replaceAll("//.*", "");
    for (String banned : BANNED) {
      Matcher m = Pattern.compile(banned, Pattern.MULTILINE).matcher(code);
      that("nothing like " + banned, !m.find());
    }
    methodsAreShort(all.split("\n"));
  }

  private static void methodsAreShort(String[] lines) {
    List<Integer> starts = new ArrayList<>();
    for (int i = 0; i < lines.length; i++) {
      if (lines[i].matches(" {4}( {4})?[^ /*}].*\\) \\{")) starts.add(i);
      if (lines[i].matches(" {4}( {4})?\\}") && !starts.isEmpty()) {
        int start = starts.get(starts.size() - 1);
        if (lines[start].indexOf(lines[start].trim()) == lines[i].indexOf('}')) {
          that(lines[start].trim() + " has sixty lines at most", i - start <= 60);
          starts.remove(starts.size() - 1);
        }
      }
    }
  }
}
