import java.io.IOException;
import java.nio.file.Files;
import java.nio.file.Path;
import java.util.ArrayList;
import java.util.Arrays;
import java.util.HashMap;
import java.util.List;
import java.util.Map;
import java.util.function.Supplier;

/**
 * What the tests of edges share: the document's sentences, each with a test of its own; objects in known states; calls
 * with the answers that are due.
 */
final class Edges {
  static final int BAD = -1, FULL = -2, FINDING = -3, STATE = -4, NONE = -9;
  static final int NOTHING = 1, BEYOND = 2, UNLIKE = 3, NOUGHT = 4, SIZE = 5;
  static final int MIN = Integer.MIN_VALUE, MAX = Integer.MAX_VALUE;

  /** PEOPLE bear 9, 6, 4, 5; a SAYING of each KIND; ROOMS 5, 6 are STUCK. */
  static final String ALL = "f9645 s31h22g74j10w41p16 d05d06";

  interface Call {
    long on(StuckDoor d);
  }

  private static final Path DOCUMENT = Path.of("../shared/DOC.md");
  /** What a line that tells of the interface has ahead of a limit (in brackets). */
  private static final String INTERFACE = "^Ahead of the calls .*---- [0-9] [^(.]*";
  private static final Map<String, List<String>> QUOTED = new HashMap<>();
  private static String current = "";
  private static int sentences = 0;
  private static int checks = 0;
  private static int wrong = 0;

  private Edges() {
  }

  // ---- sentences

  /** The test of one sentence (or part of one) that stands in the document under a heading. */
  static void sentence(String heading, String words, Runnable test) {
    current = heading + ", '" + words + "'";
    QUOTED.computeIfAbsent(heading, h -> new ArrayList<>()).add(words);
    int before = checks;
    test.run();
    if (checks == before) fail("is not tested");
    sentences++;
  }

  static void promise(int n, String words, Runnable test) {
    sentence("Promise " + n, words, test);
  }

  private static void fail(String what) {
    wrong++;
    if (wrong < 60) System.out.println(current + ": " + what);
  }

  static void is(String what, long got, long due) {
    checks++;
    if (got != due) fail(what + " answered " + got + ", due is " + due);
  }

  /** The end of a test: all words under each of the headings must have been quoted, then the exit code. */
  static void end(String... headings) {
    for (String heading : headings) allIsQuoted(heading);
    System.out.println(sentences + " sentences, " + checks + " checks, " + wrong + " wrong");
    if (wrong != 0) System.exit(1);
  }

  static String[] promises(int first, int last) {
    String[] headings = new String[last - first + 1];
    for (int n = first; n <= last; n++) headings[n - first] = "Promise " + n;
    return headings;
  }

  private static void allIsQuoted(String heading) {
    current = heading;
    String text = wordsUnder(heading);
    if (text == null) return;
    boolean[] seen = new boolean[text.length()];
    for (String words : QUOTED.getOrDefault(heading, List.of())) {
      int at = text.indexOf(words);
      if (at < 0) fail("the document does not say '" + words + "'");
      for (; at >= 0; at = text.indexOf(words, at + 1)) Arrays.fill(seen, at, at + words.length(), true);
    }
    StringBuilder left = new StringBuilder();
    for (int i = 0; i < seen.length; i++) left.append(seen[i] ? ' ' : text.charAt(i));
    String rest = left.toString().replaceAll("[ .,;:()=`]+", " ").trim();
    if (!rest.isEmpty()) fail("no test quotes '" + rest + "'");
  }

  /** The document's words under a heading, in one line; null if the document is not there to be compared. */
  private static String wordsUnder(String heading) {
    try {
      if (!Files.exists(DOCUMENT)) return null;
      StringBuilder all = new StringBuilder();
      boolean isUnder = false;
      for (String line : Files.readAllLines(DOCUMENT)) {
        if (line.startsWith("## ")) isUnder = line.equals("## " + heading) || line.startsWith("## " + heading + ":");
        else if (isUnder && !line.startsWith("```")) all.append(' ').append(line.replaceFirst(INTERFACE, ""));
      }
      String text = all.toString().replaceAll("======== [0-9]", "").replaceAll("\\s+", " ").trim();
      return heading.startsWith("Promise") ? text.replaceFirst("^`[^`]*`: ", "") : text;
    } catch (IOException e) {
      throw new IllegalStateException(e);
    }
  }

  // ---- objects in known states

  static StuckDoor fresh() {
    return new StuckDoor();
  }

  static void write(StuckDoor d, int t, String s) {
    d.text(t, s.length());
    for (int i = 0; i < s.length(); i++) d.put(t, i, s.charAt(i));
  }

  static StuckDoor of(String text) {
    StuckDoor d = new StuckDoor();
    write(d, 0, text);
    is("family() of '" + text + "' is taken", d.family(0) > 0 ? 1 : 0, 1);
    return d;
  }

  static StuckDoor fill(StuckDoor d, int r, int... values) {
    d.row(r, values.length);
    for (int i = 0; i < values.length; i++) d.lay(r, i, values[i]);
    return d;
  }

  static final int[] ROW_SIZES = {3, 0, 40, 4, 22, -1};
  static final int[] TEXT_SIZES = {ALL.length(), 2, 0, -1};

  /** No FAMILY; ROWS: three ints, none, forty, two pairs, 22, missing; TEXTS: a FAMILY, a FAULT, no bytes, missing. */
  static StuckDoor bare() {
    StuckDoor d = new StuckDoor();
    fill(d, 0, 7, -8, 9);
    d.row(1, 0);
    d.row(2, 40);
    for (int i = 0; i < 40; i += 3) d.lay(2, i, i * i - 100);
    fill(d, 3, 0, 1, 1, 3);
    d.row(4, 22);
    write(d, 0, ALL);
    write(d, 1, "f1");
    d.text(2, 0);
    d.at(5, 0);
    d.at(2, 39);
    return d;
  }

  /** bare() with a FAMILY, four DEEDS (STRAIN 4, TOPICS 3), FAMILIES kept in places 0, 1; 9 by 4 was told. */
  static StuckDoor rich() {
    StuckDoor d = bare();
    d.family(0);
    d.say(0, 1);
    d.keep(0);
    d.day();
    d.say(1, 3);
    d.keep(1);
    d.say(3, 0);
    d.mid(3, 5);
    d.mark(0, 1);
    return d;
  }

  /** rich(), then one (2) is OVER. */
  static StuckDoor over() {
    StuckDoor d = rich();
    d.say(2, 0);
    return d;
  }

  /** rich(), then DAYS up to 40 DEEDS. */
  static StuckDoor full() {
    StuckDoor d = rich();
    for (int i = 4; i < 40; i++) d.day();
    return d;
  }

  static StuckDoor overFull() {
    StuckDoor d = over();
    for (int i = 5; i < 40; i++) d.day();
    return d;
  }

  static List<Supplier<StuckDoor>> states() {
    return List.of(Edges::bare, Edges::rich, Edges::over, Edges::full, Edges::overFull);
  }

  // ---- what a call answers, and what it changes

  /** All that can be seen of an object but FINDINGS, behind each DEED, of kept FAMILIES too; the object is used up. */
  private static List<Long> seen(StuckDoor d) {
    List<Long> all = new ArrayList<>(List.of((long) d.asked(), d.upper(), d.lower(), (long) d.stuck()));
    behindEachDeed(d, all);
    for (int k = 0; k < 3; k++) {
      all.add((long) d.on(k));
      behindEachDeed(d, all);
    }
    return all;
  }

  private static void behindEachDeed(StuckDoor d, List<Long> all) {
    all.add(d.digest());
    for (int n = d.count(3) - 1; n >= 0; n--) {
      d.undo(n);
      all.add(d.digest());
    }
  }

  static void same(String what, StuckDoor d, StuckDoor twin) {
    is(what + " leaves all as it was", seen(d).equals(seen(twin)) ? 1 : 0, 1);
  }

  /** A call answers so, and changes nothing but what a FINDING (0: it is none) changes. */
  private static void answers(String what, Supplier<StuckDoor> maker, Call call, int answer, int finding) {
    StuckDoor d = maker.get();
    StuckDoor twin = maker.get();
    is(what, call.on(d), answer);
    is(what + ": finding()", d.finding(), finding == 0 ? twin.finding() : finding);
    for (int f = NOTHING; f <= SIZE; f++) {
      is(what + ": findings(" + f + ")", d.findings(f), twin.findings(f) + (f == finding ? 1 : 0));
    }
    same(what, d, twin);
  }

  static void refused(String what, Supplier<StuckDoor> maker, int answer, Call call) {
    answers(what, maker, call, answer, 0);
  }

  static void finds(String what, Supplier<StuckDoor> maker, int finding, Call call) {
    answers(what, maker, call, FINDING, finding);
  }

  /** BAD comes ahead of all others, so in every state. */
  static void bad(String what, Call call) {
    for (Supplier<StuckDoor> maker : states()) refused(what, maker, BAD, call);
  }

  static void findsAlways(String what, int finding, Call call) {
    for (Supplier<StuckDoor> maker : states()) finds(what, maker, finding, call);
  }

  /** A call that only tells: its answer, and nothing is changed by it. */
  static void tells(String what, Supplier<StuckDoor> maker, long due, Call call) {
    answers(what, maker, call, (int) due, 0);
  }

  /** What a call that answers 1 tells by asked(). */
  static void asks(String what, StuckDoor d, int due, int answer) {
    is(what, answer, 1);
    is(what + ": asked()", d.asked(), due);
  }

  static void shares(String what, StuckDoor d, int answer, long upper, long lower) {
    is(what, answer, 1);
    is(what + ": upper()", d.upper(), upper);
    is(what + ": lower()", d.lower(), lower);
  }

  static void rowIs(String what, StuckDoor d, int r, int... due) {
    for (int i = 0; i < due.length; i++) asks(what + ": place " + i, d, due[i], d.at(r, i));
    is(what + ": no place more", d.at(r, due.length), FINDING);
    is(what + ": no place more", d.finding(), BEYOND);
  }

  static int faultOf(String text) {
    StuckDoor d = new StuckDoor();
    write(d, 3, text);
    int fault = d.fault(3);
    is("family() of '" + text + "'", d.family(3) == STATE ? 1 : 0, fault == NONE ? 0 : 1);
    return fault;
  }

  static void fault(String text, int due) {
    is("fault() of '" + text + "'", faultOf(text), due);
  }
}
