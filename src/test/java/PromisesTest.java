/** For each promise of the document ordinary inputs, edges, wrong inputs and the order of refusals. */
public final class PromisesTest {
  private static final int BAD = -1, FULL = -2, FINDING = -3, STATE = -4, NONE = -9;
  private static final int NOTHING = 1, BEYOND = 2, UNLIKE = 3, NOUGHT = 4, SIZE = 5;
  /** PEOPLE bear 9, 6, 4, 5; a SAYING of each KIND; ROOMS 5, 6 are STUCK. */
  private static final String ALL = "f9645 s31h22g74j10w41p16 d05d06";

  private static int wrong = 0;
  private static int checks = 0;

  private static void is(String what, long got, long due) {
    checks++;
    if (got != due) {
      wrong++;
      System.out.println(what + " answered " + got + ", due is " + due);
    }
  }

  private static void finds(String what, StuckDoor d, int got, int finding) {
    is(what, got, FINDING);
    is(what + " finding", d.finding(), finding);
  }

  /** A refused call changes nothing but finding(), findings(). */
  private static void told(String what, StuckDoor d, int asked, long upper, long lower) {
    is(what + " asked()", d.asked(), asked);
    is(what + " upper()", d.upper(), upper);
    is(what + " lower()", d.lower(), lower);
  }

  private static void write(StuckDoor d, int t, String s) {
    d.text(t, s.length());
    for (int i = 0; i < s.length(); i++) d.put(t, i, s.charAt(i));
  }

  private static StuckDoor familyOf(String s) {
    StuckDoor d = new StuckDoor();
    write(d, 0, s);
    d.family(0);
    return d;
  }

  private static void fill(StuckDoor d, int r, int... values) {
    d.row(r, values.length);
    for (int i = 0; i < values.length; i++) d.lay(r, i, values[i]);
  }

  private static int asks(StuckDoor d, int answer) {
    is("told by asked()", answer, 1);
    return d.asked();
  }

  private static int place(StuckDoor d, int r, int i) {
    return asks(d, d.at(r, i));
  }

  private static int faultOf(String s) {
    StuckDoor d = new StuckDoor();
    write(d, 3, s);
    int fault = d.fault(3);
    is("family() of '" + s + "' is STATE iff there is a FAULT", d.family(3) == STATE ? 1 : 0, fault != NONE ? 1 : 0);
    return fault;
  }

  public static void main(String[] args) {
    newObject(); row(); lay(); at(); tear(); copy(); mean(); text(); put(); fault(); family(); saying(); mark();
    bears(); say(); day(); undo(); keep(); on(); can(); over(); talk(); waits(); settle(); least(); rows(); stuck();
    way(); cuts(); round(); never(); next(); kinds(); duel(); opens(); mid(); odds(); lots(); asked(); upperLower();
    count(); findings(); digest(); refusedAllOnNewObject();
    System.out.println(checks + " checks, " + wrong + " wrong");
    if (wrong != 0) System.exit(1);
  }

  private static void newObject() {
    StuckDoor d = new StuckDoor();
    int[] due = {0, 0, 0, 0, 0, 0, NONE, 0, 0, 0, 0};
    for (int w = 0; w <= 10; w++) is("new count(" + w + ")", d.count(w), due[w]);
    is("new stuck()", d.stuck(), 0);
    told("new", d, 0, 0, 1);
    is("new finding()", d.finding(), 0);
    for (int f = 1; f <= 5; f++) is("new findings", d.findings(f), 0);
    for (int r = 0; r < 6; r++) finds("new at", d, d.at(r, 0), NOTHING);
    for (int t = 0; t < 4; t++) finds("new fault", d, d.fault(t), NOTHING);
    for (int k = 0; k < 3; k++) finds("new on", d, d.on(k), NOTHING);
    is("new family has nobody", d.bears(0), BAD);
    is("new family has no sayings", d.saying(0, 0), BAD);
  }

  private static void row() {
    StuckDoor d = new StuckDoor();
    is("row(0, 0)", d.row(0, 0), 0);
    is("row(5, 40)", d.row(5, 40), 40);
    is("row(5, 41)", d.row(5, 41), BAD);
    is("row(-1, 3)", d.row(-1, 3), BAD);
    is("row(6, 3)", d.row(6, 3), BAD);
    is("row(6, -1): BAD ahead", d.row(6, -1), BAD);
    is("row max", d.row(0, Integer.MAX_VALUE), BAD);
    is("no finding yet", d.finding(), 0);
    finds("row(5, -1)", d, d.row(5, -1), SIZE);
    finds("row min", d, d.row(5, Integer.MIN_VALUE), SIZE);
    is("what is refused changes nothing", place(d, 5, 39), 0);
    d.lay(5, 3, 8);
    d.row(5, 10);
    is("anew it has 0 alone", place(d, 5, 3), 0);
    d.lay(5, 9, 4);
    d.row(5, 2);
    d.row(5, 10);
    is("what was cut is 0 too", place(d, 5, 9), 0);
  }

  private static void lay() {
    StuckDoor d = new StuckDoor();
    finds("lay missing", d, d.lay(2, 99, 1), NOTHING);
    d.row(2, 3);
    is("lay", asks(d, d.lay(2, 2, -7)), 0);
    is("lay again", asks(d, d.lay(2, 2, Integer.MIN_VALUE)), -7);
    is("lay third", asks(d, d.lay(2, 2, 1)), Integer.MIN_VALUE);
    finds("lay beyond", d, d.lay(2, 3, 1), BEYOND);
    finds("lay below", d, d.lay(2, -1, 1), BEYOND);
    is("lay bad", d.lay(6, 0, 1), BAD);
    is("lay bad", d.lay(-1, 0, 1), BAD);
    is("asked() stays", d.asked(), Integer.MIN_VALUE);
  }

  private static void at() {
    StuckDoor d = new StuckDoor();
    finds("at missing", d, d.at(0, 0), NOTHING);
    fill(d, 0, 5, -6);
    is("at 0", place(d, 0, 0), 5);
    is("at 1", place(d, 0, 1), -6);
    finds("at 2", d, d.at(0, 2), BEYOND);
    finds("at -1", d, d.at(0, -1), BEYOND);
    finds("at max", d, d.at(0, Integer.MAX_VALUE), BEYOND);
    is("at bad", d.at(6, 0), BAD);
    is("at bad", d.at(-1, 0), BAD);
    is("asked() stays", d.asked(), -6);
    d.row(0, 0);
    finds("at of none", d, d.at(0, 0), BEYOND);
  }

  private static void tear() {
    StuckDoor d = new StuckDoor();
    is("tear bad", d.tear(6), BAD);
    is("tear bad", d.tear(-1), BAD);
    finds("tear missing", d, d.tear(1), NOTHING);
    d.row(1, 0);
    is("tear", d.tear(1), 1);
    finds("tear again", d, d.tear(1), NOTHING);
    finds("at torn", d, d.at(1, 0), NOTHING);
    is("count 8", d.count(8), 0);
  }

  private static void copy() {
    StuckDoor d = new StuckDoor();
    fill(d, 0, 1, 2, 3, 4, 5);
    d.row(1, 3);
    is("copy", d.copy(0, 3, 1, 1, 2), 1);
    is("copied 0", place(d, 1, 0), 0);
    is("copied 1", place(d, 1, 1), 4);
    is("copied 2", place(d, 1, 2), 5);
    is("copy onto itself", d.copy(0, 0, 0, 1, 4), 1);
    int[] up = {1, 1, 2, 3, 4};
    for (int i = 0; i < 5; i++) is("taken ahead " + i, place(d, 0, i), up[i]);
    is("copy onto itself down", d.copy(0, 1, 0, 0, 4), 1);
    int[] down = {1, 2, 3, 4, 4};
    for (int i = 0; i < 5; i++) is("taken ahead down " + i, place(d, 0, i), down[i]);
    is("copy none at the ends", d.copy(0, 5, 1, 3, 0), 1);
    finds("copy none beyond", d, d.copy(0, 6, 1, 0, 0), BEYOND);
    finds("copy none to beyond", d, d.copy(0, 0, 1, 4, 0), BEYOND);
    finds("copy none below", d, d.copy(0, -1, 1, 0, 0), BEYOND);
    finds("copy too many", d, d.copy(0, 0, 1, 0, 4), BEYOND);
    finds("copy too many from", d, d.copy(0, 3, 1, 0, 3), BEYOND);
    finds("copy max", d, d.copy(0, 1, 1, 1, Integer.MAX_VALUE), BEYOND);
    finds("copy at max", d, d.copy(0, Integer.MAX_VALUE, 1, 0, 1), BEYOND);
    finds("copy to min", d, d.copy(0, 0, 1, Integer.MIN_VALUE, 1), BEYOND);
    finds("copy from missing", d, d.copy(2, 9, 1, 0, 1), NOTHING);
    finds("copy to missing", d, d.copy(0, 9, 2, 0, 1), NOTHING);
    finds("copy fewer than none", d, d.copy(2, 0, 3, 0, -1), SIZE);
    is("copy bad", d.copy(6, 0, 0, 0, -1), BAD);
    is("copy bad", d.copy(0, 0, -1, 0, -1), BAD);
  }

  private static void mean() {
    StuckDoor d = new StuckDoor();
    is("mean bad", d.mean(6), BAD);
    is("mean bad", d.mean(-1), BAD);
    finds("mean missing", d, d.mean(0), NOTHING);
    d.row(0, 0);
    finds("mean of none", d, d.mean(0), NOUGHT);
    fill(d, 0, 1, 2, 5);
    is("mean", asks(d, d.mean(0)), 2);
    d.row(0, 40);
    d.lay(0, 39, 80);
    is("mean of forty", asks(d, d.mean(0)), 2);
    fill(d, 0, -1, -2);
    is("mean is cut", asks(d, d.mean(0)), -1);
    fill(d, 0, Integer.MAX_VALUE, Integer.MAX_VALUE, Integer.MAX_VALUE);
    is("mean of large ones", asks(d, d.mean(0)), Integer.MAX_VALUE);
    fill(d, 0, Integer.MIN_VALUE, Integer.MIN_VALUE);
    is("mean of small ones", asks(d, d.mean(0)), Integer.MIN_VALUE);
  }

  private static void text() {
    StuckDoor d = new StuckDoor();
    is("text(0, 0)", d.text(0, 0), 0);
    is("text(3, 60)", d.text(3, 60), 60);
    is("text(3, 61)", d.text(3, 61), BAD);
    is("text(4, 1)", d.text(4, 1), BAD);
    is("text(-1, -1)", d.text(-1, -1), BAD);
    finds("text(3, -1)", d, d.text(3, -1), SIZE);
    is("blanks", d.put(3, 59, 65), 1032);
    d.text(3, 60);
    is("blanks anew", d.put(3, 59, 65), 1032);
    is("count 9", d.count(9), 2);
  }

  private static void put() {
    StuckDoor d = new StuckDoor();
    is("put bad", d.put(4, 0, 0), BAD);
    is("put bad", d.put(-1, 0, 0), BAD);
    finds("put missing", d, d.put(0, 9, 0), NOTHING);
    d.text(0, 2);
    finds("put beyond", d, d.put(0, 2, 0), BEYOND);
    finds("put below", d, d.put(0, -1, 0), BEYOND);
    is("put", d.put(0, 1, 127), 1032);
    is("put 128", d.put(0, 1, 128), 1127);
    is("cut to a byte", d.put(0, 1, 256 + 65), 872);
    is("cut to a byte", d.put(0, 1, -1), 1065);
    is("cut to a byte", d.put(0, 1, 0), 999);
    is("the other one", d.put(0, 0, 0), 1032);
  }

  private static void fault() {
    StuckDoor d = new StuckDoor();
    is("fault bad", d.fault(4), BAD);
    is("fault bad", d.fault(-1), BAD);
    finds("fault missing", d, d.fault(0), NOTHING);
    is("whole", faultOf(ALL), NONE);
    is("least", faultOf("f0s00"), NONE);
    is("many blanks", faultOf("  f12   s11  h22   d00  d11  "), NONE);
    is("empty", faultOf(""), 0);
    is("blanks alone", faultOf("    "), 4);
    is("f alone", faultOf("f"), 1);
    is("no f", faultOf(" x1s11"), 1);
    is("blank behind f", faultOf("f 1s11"), 1);
    is("nobody", faultOf("fs11"), 1);
    is("fifth of people", faultOf("f12345s11"), 5);
    is("people apart", faultOf("f12 3s11"), 4);
    is("no sayings", faultOf("f12"), 3);
    is("no sayings, blanks", faultOf("f12  "), 5);
    is("no letter", faultOf("f12 x11"), 4);
    is("a second f", faultOf("f12s11f1"), 6);
    is("near none", faultOf("f1sx1"), 3);
    is("near blank", faultOf("f1s 11"), 3);
    is("near at end", faultOf("f1s"), 3);
    is("topics 8", faultOf("f1s18"), 4);
    is("topics blank", faultOf("f1s1 1"), 4);
    is("topics at end", faultOf("f1s1"), 4);
    is("third figure", faultOf("f1s111"), 5);
    is("six sayings", faultOf("f1s11s11s11s11s11s11"), NONE);
    is("seventh saying", faultOf("f1s11s11s11s11s11s11 s11"), 21);
    is("saying behind stuck room", faultOf("f1s11d00 s11"), 9);
    is("stuck room ahead of all", faultOf("f1 d00s11"), 3);
    is("room 09", faultOf("f1s11d09"), NONE);
    is("room 10, 11", faultOf("f1s11d10d11"), NONE);
    is("room 12", faultOf("f1s11d12"), 7);
    is("room 19", faultOf("f1s11d19"), 7);
    is("room 2.", faultOf("f1s11d20"), 6);
    is("room blank", faultOf("f1s11d 00"), 6);
    is("room within", faultOf("f1s11d0 0"), 7);
    is("room at end", faultOf("f1s11d"), 6);
    is("room at end", faultOf("f1s11d0"), 7);
    is("room again", faultOf("f1s11d03d04 d03"), 14);
    is("capital", faultOf("F1s11"), 0);
    is("signs beside the figures", faultOf("f:s11"), 1);
    is("signs beside the figures", faultOf("f/s11"), 1);
    is("signs beside the figures", faultOf("f1:s11"), 2);
    is("signs beside the figures", faultOf("f1s:1"), 3);
    is("signs beside the figures", faultOf("f1s/1"), 3);
    is("signs beside the figures", faultOf("f1s1/"), 4);
    is("signs beside the figures", faultOf("f1s11d/1"), 6);
    is("signs beside the figures", faultOf("f1s11d0:"), 7);
    is("signs beside the figures", faultOf("f1s11d0/"), 7);
    is("all rooms", faultOf("f1s11d00d01d02d03d04d05d06d07d08d09d10d11"), NONE);
    write(d, 0, "f1s11");
    d.put(0, 4, -79);
    is("a byte below 0", d.fault(0), 4);
    d.put(0, 4, 256 + '7');
    is("a byte cut", d.fault(0), NONE);
  }

  private static void family() {
    StuckDoor d = new StuckDoor();
    is("family bad", d.family(4), BAD);
    is("family bad", d.family(-1), BAD);
    finds("family missing", d, d.family(1), NOTHING);
    write(d, 1, ALL);
    is("family", d.family(1), 6);
    d.say(0, 0);
    for (int k = 0; k < 3; k++) d.keep(k);
    write(d, 0, "f1");
    is("family of a FAULT", d.family(0), STATE);
    is("nothing is changed", d.count(3), 1);
    is("kept stays", d.count(10), 3);
    write(d, 0, "f32j57d11");
    is("family anew", d.family(0), 1);
    int[] due = {1, 2, 0, 0, 0, 0, NONE, 1, 0, 2, 0};
    for (int w = 0; w <= 10; w++) is("anew count(" + w + ")", d.count(w), due[w]);
    is("anew stuck()", d.stuck(), 2048);
    is("anew bears(2)", d.bears(2), BAD);
    d.put(0, 1, '9');
    is("the FAMILY is not its TEXT", d.bears(0), 3);
    for (int k = 0; k < 3; k++) finds("kept are gone", d, d.on(k), NOTHING);
  }

  private static void saying() {
    StuckDoor d = familyOf(ALL);
    int[][] due = {{0, 3, 3, 1, 0}, {1, 2, 2, 2, 0}, {2, 7, 3, 4, 0}, {3, 1, 0, 0, 0}, {4, 4, 5, 1, 0}, {5, 1, 2, 6, 0}};
    for (int i = 0; i < 6; i++) {
      for (int w = 0; w <= 4; w++) is("saying(" + i + ", " + w + ")", asks(d, d.saying(i, w)), due[i][w]);
    }
    is("saying bad", d.saying(6, 0), BAD);
    is("saying bad", d.saying(-1, 0), BAD);
    is("saying bad", d.saying(0, 5), BAD);
    is("saying bad", d.saying(0, -1), BAD);
    is("asked() stays", d.asked(), 0);
    d.say(0, 1);
    is("a HINT said once", asks(d, d.saying(1, 2)), 3);
    is("a WILL, one settled", asks(d, d.saying(4, 2)), 4);
    d.say(0, 5);
    is("a SPEECH said once", asks(d, d.saying(5, 2)), 4);
    is("a WILL, two settled", asks(d, d.saying(4, 2)), 3);
    d.say(0, 3);
    d.say(0, 3);
    is("a JOKE said twice", asks(d, d.saying(3, 2)), 1);
    is("said", asks(d, d.saying(3, 4)), 2);
    d.say(0, 0);
    is("a SAYING comes as told", asks(d, d.saying(0, 2)), 3);
    is("a GRACE half", asks(d, d.saying(2, 2)), 3);
  }

  private static void mark() {
    StuckDoor d = familyOf(ALL);
    is("mark bad", d.mark(6, 1), BAD);
    is("mark bad", d.mark(-1, 1), BAD);
    is("mark KIND 0", d.mark(0, 0), BAD);
    is("mark bad kind", d.mark(0, 6), BAD);
    is("mark bad kind", d.mark(0, -1), BAD);
    int[][] due = {{-3, -3, -3, -3, -3}, {0, -3, -3, -3, -3}, {-3, 4, -3, -3, -3}, {0, -3, 2, -3, -3},
      {-3, 2, -3, 3, -3}, {0, -3, -3, -3, 0}};
    for (int i = 0; i < 6; i++) {
      for (int k = 1; k <= 5; k++) is("mark(" + i + ", " + k + ")", d.mark(i, k), due[i][k - 1]);
    }
    is("UNLIKE", d.findings(UNLIKE), 22);
    d.say(0, 3);
    is("JOKE once more", d.mark(3, 3), 1);
    is("JOKE as HINT", d.mark(3, 1), 1);
    d.say(0, 3);
    is("JOKE comes NEAR", d.mark(3, 3), 0);
    d.say(0, 3);
    is("JOKE 0 at least", d.mark(3, 3), 0);
    d.say(0, 0);
    is("WILL", d.mark(4, 4), 2);
    is("SPEECH", d.mark(5, 5), 2);
    StuckDoor j = familyOf("f9j00j90");
    is("JOKE of 0", j.mark(0, 3), 3);
    is("JOKE of 9", j.mark(1, 3), 0);
    j.say(0, 1);
    j.say(0, 1);
    is("OVER", j.count(6), 0);
    StuckDoor s = familyOf("f20s90p90");
    is("SPEECH: all", s.mark(1, 5), 2);
    s.say(0, 0);
    is("SPEECH: one is OVER", s.mark(1, 5), 0);
  }

  private static void bears() {
    StuckDoor d = familyOf("f9045s11");
    int[] due = {9, 0, 4, 5};
    for (int x = 0; x < 4; x++) is("bears", d.bears(x), due[x]);
    is("bears bad", d.bears(4), BAD);
    is("bears bad", d.bears(-1), BAD);
  }

  private static void say() {
    StuckDoor d = familyOf(ALL);
    is("say bad", d.say(4, 0), BAD);
    is("say bad", d.say(-1, 0), BAD);
    is("say bad", d.say(0, 6), BAD);
    is("say bad", d.say(0, -1), BAD);
    is("say", d.say(0, 1), 2);
    is("say a HINT again", d.say(1, 1), 5);
    is("as much as one BEARS", d.say(3, 3), 5);
    is("nobody OVER", d.count(6), NONE);
    is("above", d.say(2, 3), 5);
    is("OVER", d.count(6), 2);
    is("say, one is OVER", d.say(0, 0), STATE);
    is("say bad ahead of STATE", d.say(4, 0), BAD);
    StuckDoor f = familyOf("f9s00");
    for (int i = 0; i < 40; i++) is("say", f.say(0, 0), 0);
    is("say FULL", f.say(0, 0), FULL);
    is("say FULL", f.count(3), 40);
    is("say bad ahead of FULL", f.say(1, 0), BAD);
    StuckDoor g = familyOf("f8s00s90");
    for (int i = 0; i < 39; i++) g.say(0, 0);
    is("the 40th", g.say(0, 1), 9);
    is("STATE ahead of FULL", g.say(0, 0), STATE);
    StuckDoor w = familyOf("f9w01");
    is("a WILL counts what is open ahead of it", w.say(0, 0), 3);
    is("a WILL then", w.say(0, 0), 5);
  }

  private static void day() {
    is("day, no SAYINGS", new StuckDoor().day(), STATE);
    StuckDoor d = familyOf("f1s20");
    is("day", d.day(), 0);
    is("say", d.say(0, 0), 2);
    is("day, one is OVER", d.day(), 1);
    is("day", d.day(), 0);
    is("still OVER", d.count(6), 0);
    for (int i = 4; i < 40; i++) is("day", d.day(), 0);
    is("day FULL", d.day(), FULL);
    is("DAYS", d.count(2), 39);
    is("DEEDS", d.count(3), 40);
  }

  private static void undo() {
    StuckDoor d = familyOf(ALL);
    is("undo none", d.undo(0), 0);
    is("undo bad", d.undo(1), BAD);
    is("undo bad", d.undo(-1), BAD);
    d.say(0, 1);
    d.day();
    d.say(2, 5);
    d.say(2, 0);
    is("OVER", d.count(6), 2);
    is("undo bad", d.undo(5), BAD);
    is("undo none", d.undo(4), 0);
    is("OVER still", d.count(6), 2);
    is("undo one", d.undo(3), 1);
    is("not OVER", d.count(6), NONE);
    is("STRAIN", d.count(4), 3);
    is("TOPICS", d.count(5), 6);
    is("undo two", d.undo(1), 2);
    is("STRAIN", d.count(4), 2);
    is("TOPICS", d.count(5), 2);
    is("DAYS", d.count(2), 0);
    is("said", asks(d, d.saying(5, 4)), 0);
    is("said", asks(d, d.saying(1, 4)), 1);
    is("undo all", d.undo(0), 1);
    is("said", asks(d, d.saying(1, 4)), 0);
    is("nobody there", new StuckDoor().undo(0), 0);
  }

  private static void keep() {
    StuckDoor d = new StuckDoor();
    is("keep bad", d.keep(3), BAD);
    is("keep bad", d.keep(-1), BAD);
    is("keep, no SAYINGS", d.keep(0), STATE);
    d = familyOf(ALL);
    is("keep none", d.keep(0), 0);
    d.say(0, 0);
    d.day();
    is("keep two", d.keep(2), 2);
    is("keep again", d.keep(0), 2);
    is("count 10", d.count(10), 2);
    is("keep bad", d.keep(3), BAD);
  }

  private static void on() {
    StuckDoor d = familyOf(ALL);
    is("on bad", d.on(3), BAD);
    is("on bad", d.on(-1), BAD);
    finds("on missing", d, d.on(1), NOTHING);
    d.say(0, 1);
    d.day();
    d.keep(1);
    d.say(2, 1);
    d.say(2, 0);
    is("OVER", d.count(6), 2);
    d.keep(2);
    is("on", d.on(1), 2);
    is("STRAIN", d.count(4), 1);
    is("DAYS", d.count(2), 1);
    is("OVER", d.count(6), NONE);
    is("said", asks(d, d.saying(1, 4)), 1);
    d.undo(0);
    is("on to more", d.on(2), 4);
    is("OVER again", d.count(6), 2);
    is("STRAIN again", d.count(4), 7);
    is("kept stays", d.on(1), 2);
    d.undo(0);
    d.day();
    d.say(0, 5);
    d.day();
    is("on from other DEEDS", d.on(1), 2);
    is("STRAIN", d.count(4), 1);
    is("TOPICS", d.count(5), 2);
    is("said", asks(d, d.saying(5, 4)), 0);
  }

  private static void can() {
    StuckDoor d = familyOf(ALL);
    int[] due = {63, 63, 47, 63};
    for (int x = 0; x < 4; x++) is("can(" + x + ")", d.can(x), due[x]);
    is("can bad", d.can(4), BAD);
    is("can bad", d.can(-1), BAD);
    d.say(0, 0);
    is("can, STRAIN 3", d.can(2), 8);
    d.say(2, 1);
    is("can, one is OVER", d.can(0), 0);
    is("can bad", d.can(4), BAD);
  }

  private static void over() {
    StuckDoor d = familyOf(ALL);
    int[] due = {0, 0, 0, 0, 4, 0};
    for (int i = 0; i < 6; i++) is("over(" + i + ")", d.over(i), due[i]);
    is("over bad", d.over(6), BAD);
    is("over bad", d.over(-1), BAD);
    d.say(0, 0);
    is("over, STRAIN 3", d.over(0), 4 | 8);
    d.say(2, 0);
    is("over, one is OVER", d.over(0), 0);
  }

  private static void talk() {
    StuckDoor d = new StuckDoor();
    is("talk bad", d.talk(6), BAD);
    is("talk bad", d.talk(-1), BAD);
    is("talk, no SAYINGS, ahead of NOTHING", d.talk(0), STATE);
    d = familyOf(ALL);
    finds("talk missing", d, d.talk(0), NOTHING);
    d.row(0, 0);
    is("talk of none", d.talk(0), 0);
    d.row(0, 21);
    finds("talk not by pairs, too many", d, d.talk(0), SIZE);
    d.row(0, 22);
    finds("talk too many", d, d.talk(0), SIZE);
    fill(d, 0, 9, 9, 9);
    finds("talk: SIZE ahead of UNLIKE", d, d.talk(0), SIZE);
    fill(d, 0, 0, 1, 1, 1, 2, 3, 0, 0);
    is("talk", d.talk(0), 3);
    is("STRAIN", d.asked(), 5);
    is("aside", d.count(4), 0);
    is("aside", d.count(5), 0);
    is("aside", d.count(6), NONE);
    is("aside", asks(d, d.saying(1, 4)), 0);
    fill(d, 0, 0, 4, 0, 4);
    is("talk, all", d.talk(0), 2);
    is("TOPICS are settled in it", d.asked(), 9);
    fill(d, 0, 2, 4, 0, 6);
    finds("UNLIKE behind one OVER", d, d.talk(0), UNLIKE);
    fill(d, 0, 4, 0);
    finds("UNLIKE one", d, d.talk(0), UNLIKE);
    fill(d, 0, -1, 0);
    finds("UNLIKE one", d, d.talk(0), UNLIKE);
    fill(d, 0, 0, -1);
    finds("UNLIKE saying", d, d.talk(0), UNLIKE);
    d.row(0, 20);
    is("ten pairs", d.talk(0), 4);
    is("ten pairs", d.asked(), 12);
    d.say(0, 1);
    d.day();
    fill(d, 0, 0, 1);
    is("talk from now", d.talk(0), 1);
    is("talk from now", d.asked(), 4);
    is("aside", d.count(3), 2);
    is("aside", d.count(4), 1);
    d.say(2, 4);
    is("talk, one is OVER", d.talk(5), STATE);
    is("asked() stays", d.asked(), 4);
  }

  private static void waits() {
    StuckDoor d = familyOf("f52s30h10s60");
    is("waits bad", d.waits(2, 0), BAD);
    is("waits bad", d.waits(-1, 0), BAD);
    is("waits bad", d.waits(0, 3), BAD);
    is("waits bad", d.waits(0, -1), BAD);
    is("waits none", d.waits(0, 0), 0);
    is("waits never", d.waits(0, 2), NONE);
    is("waits never", d.waits(1, 0), NONE);
    d.say(0, 0);
    is("waits", d.waits(0, 0), 1);
    is("waits", d.waits(1, 1), 2);
    is("waits", d.waits(0, 1), 0);
    d.day();
    is("waits", d.waits(0, 0), 0);
    d.say(1, 1);
    is("OVER", d.count(6), 1);
    is("waits, one is OVER", d.waits(0, 0), STATE);
    is("waits bad ahead", d.waits(2, 0), BAD);
  }

  private static void settle() {
    StuckDoor d = familyOf(ALL);
    is("settle bad", d.settle(4, 0), BAD);
    is("settle bad", d.settle(-1, 0), BAD);
    is("settle bad", d.settle(0, 6), BAD);
    is("settle bad", d.settle(0, -1), BAD);
    is("settle", d.settle(0, 1), 2);
    is("first", place(d, 1, 0), 0);
    is("second", place(d, 1, 1), 5);
    finds("no third", d, d.at(1, 2), BEYOND);
    is("settle", d.settle(1, 1), 3);
    is("silent", place(d, 1, 0), NONE);
    is("then", place(d, 1, 1), 0);
    is("then", place(d, 1, 2), 5);
    is("aside", d.count(3), 0);
    is("aside", d.count(4), 0);
    is("count 8", d.count(8), 1);
    StuckDoor n = familyOf("f9s03");
    fill(n, 0, 7, 8);
    is("never all", n.settle(0, 0), NONE);
    is("a ROW stays", place(n, 0, 1), 8);
    StuckDoor f = familyOf("f2s17s96");
    is("at once", f.settle(0, 3), 1);
    f.say(0, 0);
    fill(f, 3, 1, 2, 3);
    is("settled", f.settle(0, 3), 0);
    finds("a ROW of none", f, f.at(3, 0), BEYOND);
    StuckDoor w = familyOf("f50h11h52");
    is("TOPIC 2 is told by none", w.settle(0, 0), NONE);
    StuckDoor five = familyOf("f3s10s37");
    for (int i = 0; i < 3; i++) five.say(0, 0);
    is("four TURNS", five.settle(0, 0), 4);
    for (int i = 0; i < 3; i++) is("silent", place(five, 0, i), NONE);
    is("then", place(five, 0, 3), 1);
    StuckDoor six = familyOf("f5s57s50");
    six.say(0, 1);
    is("not by 5", six.settle(0, 0), NONE);
    six.day();
    is("by 5", six.settle(0, 0), 5);
    six.say(0, 0);
    is("settle, one is OVER", six.settle(0, 0), STATE);
    is("BAD ahead", six.settle(0, 6), BAD);
  }

  private static void least() {
    StuckDoor d = familyOf(ALL);
    is("least bad", d.least(4, 0), BAD);
    is("least bad", d.least(-1, 0), BAD);
    is("least bad", d.least(0, 6), BAD);
    is("least bad", d.least(0, -1), BAD);
    is("least by none", d.least(0, 0), NONE);
    is("least by none", d.least(0, 1), NONE);
    is("least", d.least(0, 2), 5);
    is("least by none behind another one", d.least(0, 1), NONE);
    is("least", d.least(1, 3), 4);
    is("least", d.least(0, 5), 2);
    is("aside", d.count(4), 0);
    StuckDoor s = familyOf("f9s97");
    is("nothing lower", s.least(0, 1), 9);
    s.say(0, 0);
    is("settled already", s.least(0, 0), 9);
    is("settled already", s.least(0, 4), 5);
    s.say(0, 0);
    is("least, one is OVER", s.least(0, 0), STATE);
    is("BAD ahead", s.least(0, 6), BAD);
  }

  private static void rows() {
    StuckDoor d = familyOf(ALL);
    is("rows bad", d.rows(4, 0), BAD);
    is("rows bad", d.rows(-1, 0), BAD);
    is("rows bad", d.rows(0, 6), BAD);
    is("rows bad", d.rows(0, -1), BAD);
    int[] n = {0, 2, 5};
    int[] due = {1, 42, 2898};
    int[] topics = {0, 7, 7};
    for (int i = 0; i < 3; i++) {
      is("rows", d.rows(0, n[i]), 1);
      told("rows", d, topics[i], due[i], 1);
    }
    is("rows behind others", d.rows(0, 0), 1);
    told("rows behind others", d, 0, 1, 1);
    StuckDoor s = familyOf("f20s12s31");
    is("rows", s.rows(0, 1), 1);
    told("rows", s, 2, 2, 1);
    is("rows from the other one", s.rows(1, 2), 1);
    told("rows from the other one", s, 2, 2, 1);
    s.say(0, 0);
    is("settled ones", s.rows(0, 0), 1);
    told("settled ones", s, 2, 1, 1);
    s.say(0, 1);
    is("rows, one is OVER", s.rows(0, 0), STATE);
    is("BAD ahead", s.rows(0, 6), BAD);
  }

  private static void stuck() {
    is("stuck", familyOf(ALL).stuck(), 96);
    is("stuck", familyOf("f1s11d11d00").stuck(), 2049);
    is("stuck", familyOf("f1s11").stuck(), 0);
  }

  private static void way() {
    StuckDoor n = new StuckDoor();
    is("way", n.way(0, 11), 5);
    is("way", n.way(3, 8), 5);
    is("way", n.way(3, 4), 4);
    is("way itself", n.way(7, 7), 0);
    int[][] bad = {{-1, 0}, {12, 0}, {0, -1}, {0, 12}};
    for (int[] b : bad) {
      is("way bad", n.way(b[0], b[1]), BAD);
      is("cuts bad", n.cuts(b[0], b[1]), BAD);
      is("round bad", n.round(b[0], b[1]), BAD);
    }
    StuckDoor d = familyOf(ALL);
    is("way round", d.way(4, 7), 5);
    is("way into STUCK", d.way(0, 6), NONE);
    is("way out of STUCK", d.way(5, 0), NONE);
    is("way STUCK itself", d.way(5, 5), NONE);
    StuckDoor snake = familyOf("f1s11d01d05d10d06");
    is("no way", snake.way(0, 3), NONE);
    StuckDoor bend = familyOf("f1s11d01d05d07");
    is("a long way", bend.way(0, 3), 7);
  }

  private static void cuts() {
    StuckDoor d = familyOf(ALL);
    is("cuts", d.cuts(0, 11), 2049);
    is("cuts", d.cuts(4, 7), 144);
    is("cuts STUCK", d.cuts(5, 0), 0);
    is("cuts STUCK itself", d.cuts(5, 5), 0);
    is("cuts itself", d.cuts(2, 2), 4);
    StuckDoor bend = familyOf("f1s11d01d05d07");
    is("cuts of a long way", bend.cuts(0, 3), 1 << 0 | 1 << 4 | 1 << 8 | 1 << 9 | 1 << 10 | 1 << 6 | 1 << 2 | 1 << 3);
    is("cuts, no STUCK ones", new StuckDoor().cuts(0, 1), 3);
    is("cuts, no way", familyOf("f1s11d01d04").cuts(0, 11), 0);
  }

  private static void round() {
    StuckDoor d = familyOf(ALL);
    is("round", d.round(0, 11), 0);
    is("round", d.round(4, 7), 2);
    is("round STUCK", d.round(0, 6), NONE);
    is("round itself", d.round(2, 2), 0);
    is("round STUCK itself", d.round(6, 6), NONE);
    is("round", familyOf("f1s11d01d05d07").round(0, 3), 4);
  }

  private static void never() {
    StuckDoor d = new StuckDoor();
    is("never bad", d.never(6), BAD);
    is("never bad", d.never(-1), BAD);
    finds("never missing", d, d.never(0), NOTHING);
    d.row(0, 0);
    is("never of none", d.never(0), 7);
    d.row(0, 1);
    finds("never, no SAYINGS", d, d.never(0), UNLIKE);
    d.row(0, 13);
    finds("never too many", d, d.never(0), SIZE);
    d = familyOf(ALL);
    d.row(0, 12);
    is("twelve", d.never(0), 6);
    d.row(0, 13);
    d.lay(0, 0, 9);
    finds("thirteen: SIZE ahead", d, d.never(0), SIZE);
    fill(d, 0, 0, 6);
    finds("UNLIKE", d, d.never(0), UNLIKE);
    fill(d, 0, -1);
    finds("UNLIKE", d, d.never(0), UNLIKE);
    fill(d, 0, 3);
    is("never", d.never(0), 7);
    fill(d, 0, 5, 4);
    is("never", d.never(0), 0);
    d.say(0, 5);
    fill(d, 0, 4);
    is("what was said is nothing to it", d.never(0), 6);
  }

  private static void next() {
    StuckDoor d = new StuckDoor();
    is("next bad", d.next(6), BAD);
    is("next bad", d.next(-1), BAD);
    is("next, no SAYINGS, ahead of NOTHING", d.next(0), STATE);
    d = familyOf(ALL);
    finds("next missing", d, d.next(0), NOTHING);
    d.row(0, 13);
    finds("next too many", d, d.next(0), SIZE);
    fill(d, 0, 6);
    finds("next UNLIKE", d, d.next(0), UNLIKE);
    is("asked() before", d.asked(), 0);
    d.row(0, 0);
    is("next of none", d.next(0), 5);
    is("how many", d.asked(), 2);
    fill(d, 0, 5);
    is("the least NEAR", d.next(0), 0);
    is("how many", d.asked(), 1);
    fill(d, 0, 5, 0);
    is("none more: the least NEAR", d.next(0), 3);
    is("how many", d.asked(), 0);
    StuckDoor n = familyOf("f89h11h11g21");
    n.row(0, 0);
    is("the first", n.next(0), 0);
    n.say(0, 0);
    is("NEAR now", n.next(0), 1);
    n.say(0, 1);
    is("NEAR now", n.next(0), 2);
    n.say(0, 0);
    n.say(0, 1);
    n.say(0, 0);
    is("OVER", n.count(6), 0);
    is("though one is OVER", n.next(0), 2);
  }

  private static void kinds() {
    StuckDoor d = familyOf(ALL);
    int[][] due = {{0, 3, 0, 0, 3}, {1, 4, 2, 1, 2}, {2, 6, 1, 3, 24}, {5, 6, 2, 0, 32}, {4, 2, 0, 0, 28},
      {0, 100, 0, 0, BAD}, {0, -1, 0, 0, BAD}, {0, 0, -1, 0, BAD}, {0, 0, 10, 0, BAD}, {0, 0, 0, -1, BAD},
      {0, 0, 0, 4, BAD}, {6, 0, 0, 0, BAD}, {-1, 0, 0, 0, BAD}, {0, 99, 9, 3, 0}, {2, 32, 9, 3, 32}};
    for (int[] k : due) is("kinds(" + k[0] + ", " + k[1] + ", ..)", d.kinds(k[0], k[1], k[2], k[3]), k[4]);
    is("kinds of 0", familyOf("f1s00").kinds(0, 0, 0, 0), 63);
    is("told, not as it comes now", d.kinds(1, 2, 0, 0), 1 | 2);
    d.say(0, 1);
    is("told, not as it comes now", d.kinds(1, 2, 0, 0), 1 | 2);
  }

  private static void duel() {
    StuckDoor d = familyOf(ALL);
    is("duel bad", d.duel(4, 0), BAD);
    is("duel bad", d.duel(0, 4), BAD);
    is("duel bad", d.duel(-1, 0), BAD);
    is("duel bad", d.duel(0, -1), BAD);
    is("duel the same", d.duel(1, 1), BAD);
    is("duel", d.duel(0, 1), 1);
    is("duel", d.duel(1, 0), 0);
    is("duel", d.duel(2, 3), 0);
    is("duel", d.duel(3, 2), 1);
    is("aside", d.count(4), 0);
    is("aside", d.count(3), 0);
    is("nobody", familyOf("f99s11s22").duel(0, 1), NONE);
    is("must", familyOf("f09s11").duel(0, 1), 0);
    is("the other one", familyOf("f90s11s11").duel(0, 1), 1);
    // the WILL ahead of what settles all leaves 4 to the other one, behind it 1
    is("the other one rather than nobody", familyOf("f93s17w00").duel(0, 1), 1);
    // only by what settles all at first does the WILL come to nothing, else the last one of three is above 4
    is("nobody rather than oneself", familyOf("f49w00s10s17").duel(0, 1), NONE);
    d.say(2, 4);
    is("duel, one is OVER", d.duel(0, 1), STATE);
    is("BAD ahead", d.duel(0, 0), BAD);
  }

  private static void opens() {
    StuckDoor d = familyOf(ALL);
    is("opens bad", d.opens(4, 0), BAD);
    is("opens bad", d.opens(0, 4), BAD);
    is("opens the same", d.opens(1, 1), BAD);
    is("opens", d.opens(0, 1), 0);
    is("opens", d.opens(1, 0), 0);
    is("aside", d.count(4), 0);
    is("opens by the WILL", familyOf("f93s17w00").opens(0, 1), 1);
    is("opens by the WILL", familyOf("f93w00s17").opens(0, 1), 0);
    is("opens ahead of the WILL", familyOf("f49w00s10s17").opens(0, 1), 2);
    StuckDoor o = familyOf("f20s90s10s10");
    is("one's own end is last", o.duel(0, 1), 1);
    is("opens by another one", o.opens(0, 1), 1);
    StuckDoor lost = familyOf("f09s20s10");
    is("lost", lost.duel(0, 1), 0);
    is("lost anyhow: the first one", lost.opens(0, 1), 0);
    d.say(2, 4);
    is("opens, one is OVER", d.opens(0, 1), STATE);
    is("BAD ahead", d.opens(0, 0), BAD);
  }

  private static void mid() {
    StuckDoor n = new StuckDoor();
    is("mid, no SAYINGS", n.mid(0, 0), STATE);
    int[][] bad = {{-1, 0}, {13, 0}, {0, -1}, {0, 13}};
    for (int[] b : bad) is("mid bad", n.mid(b[0], b[1]), BAD);
    StuckDoor d = familyOf("f9s30s90");
    is("mid 0", d.mid(12, 12), 1);
    told("0 by 1", d, 0, 0, 1);
    d.say(0, 0);
    long[][] due = {{0, 0, 3, 1}, {2, 4, 5, 3}, {12, 3, 669, 16777216}, {12, 12, 3, 1}, {12, 0, 0, 1}, {1, 11, 35, 12}};
    for (long[] m : due) {
      is("mid", d.mid((int) m[0], (int) m[1]), 1);
      told("mid", d, 0, m[2], m[3]);
    }
    d.say(0, 1);
    is("mid, one is OVER", d.mid(1, 0), 1);
    told("mid, one is OVER", d, 0, 11, 1);
    is("mid bad", d.mid(13, 0), BAD);
    told("mid bad", d, 0, 11, 1);
  }

  private static void odds() {
    StuckDoor d = familyOf("f51s40s60");
    int[][] bad = {{2, 0, 0, 0}, {-1, 0, 0, 0}, {0, 2, 0, 0}, {0, -1, 0, 0}, {0, 0, 13, 0}, {0, 0, -1, 0},
      {0, 0, 0, 13}, {0, 0, 0, -1}};
    for (int[] b : bad) is("odds bad", d.odds(b[0], b[1], b[2], b[3]), BAD);
    d.say(0, 0);
    long[][] due = {{0, 0, 0, 0, 0, 1}, {0, 0, 3, 0, 1, 1}, {0, 0, 2, 0, 0, 1}, {0, 0, 3, 6, 1, 8}, {0, 0, 4, 6, 5, 16},
      {0, 0, 12, 12, 0, 1}, {0, 1, 12, 0, 0, 1}, {1, 0, 12, 0, 0, 1}, {0, 0, 3, 4, 8, 27}};
    for (long[] o : due) {
      is("odds", d.odds((int) o[0], (int) o[1], (int) o[2], (int) o[3]), 1);
      told("odds", d, 0, o[4], o[5]);
    }
    d.say(0, 1);
    is("odds, one is OVER", d.odds(0, 0, 0, 0), STATE);
    is("BAD ahead", d.odds(0, 0, 0, 13), BAD);
    told("refused", d, 0, 8, 27);
  }

  private static void lots() {
    StuckDoor n = new StuckDoor();
    is("lots, no SAYINGS", n.lots(1, 1), STATE);
    int[][] bad = {{0, 1}, {21, 1}, {-1, 1}, {1, 0}, {1, -1}, {1, 2147483647}, {1, Integer.MIN_VALUE}};
    for (int[] b : bad) is("lots bad", n.lots(b[0], b[1]), BAD);
    StuckDoor d = familyOf(ALL);
    is("lots", d.lots(1, 2147483646), d.count(4));
    is("DEEDS", d.count(3), 1);
    d.undo(0);
    // 48271: by 8 6033, modulo 4 1; by 64 754, modulo 4 PEOPLE 2; modulo 6 SAYINGS 1
    is("lots", d.lots(1, 1), 2);
    is("said", asks(d, d.saying(1, 4)), 1);
    is("twenty", d.lots(20, 7), d.count(4));
    is("twenty more", d.lots(20, 7), FULL);
    is("nineteen more", d.lots(19, 7), d.count(4));
    is("forty", d.count(3), 40);
    is("nobody OVER by LOTS", d.count(6), NONE);
    is("lots FULL", d.lots(1, 7), FULL);
    is("BAD ahead of FULL", d.lots(0, 7), BAD);
    StuckDoor o = familyOf("f0s10");
    o.say(0, 0);
    is("one is OVER: DAYS", o.lots(20, 3), 0);
    is("DAYS", o.count(2), 20);
  }

  private static void asked() {
    StuckDoor d = familyOf(ALL);
    fill(d, 0, 4, 4);
    is("lay()", d.asked(), 0);
    d.at(0, 0);
    is("at()", d.asked(), 4);
    d.saying(2, 1);
    is("saying()", d.asked(), 7);
    d.mean(0);
    is("mean()", d.asked(), 4);
    d.digest();
    is("digest() tells nothing", d.asked(), 4);
    d.row(1, 0);
    d.next(1);
    is("next()", d.asked(), 2);
    d.rows(0, 1);
    is("rows()", d.asked(), 7);
    d.talk(1);
    is("talk()", d.asked(), 0);
    d.saying(0, 1);
    d.settle(0, 2);
    d.never(1);
    d.mark(0, 1);
    d.say(0, 1);
    is("others tell nothing", d.asked(), 3);
  }

  private static void upperLower() {
    StuckDoor d = familyOf(ALL);
    d.rows(0, 2);
    told("rows()", d, 7, 42, 1);
    d.saying(0, 0);
    told("saying()", d, 0, 42, 1);
    d.mid(3, 3);
    told("mid()", d, 0, 0, 1);
    d.odds(0, 0, 1, 1);
    told("odds()", d, 0, 1, 1);
    d.rows(0, 6);
    told("refused", d, 0, 1, 1);
  }

  private static void count() {
    StuckDoor d = familyOf(ALL);
    is("count bad", d.count(11), BAD);
    is("count bad", d.count(-1), BAD);
    d.row(0, 1);
    d.row(5, 0);
    d.keep(0);
    d.say(0, 0);
    d.day();
    d.say(3, 5);
    int[] due = {6, 4, 1, 3, 4, 7, NONE, 3, 2, 1, 1};
    for (int w = 0; w <= 10; w++) is("count(" + w + ")", d.count(w), due[w]);
    d.say(2, 2);
    is("OVER", d.count(6), 2);
  }

  private static void findings() {
    StuckDoor d = new StuckDoor();
    is("findings bad", d.findings(0), BAD);
    is("findings bad", d.findings(6), BAD);
    is("findings bad", d.findings(-1), BAD);
    d.at(0, 0);
    d.tear(0);
    d.row(0, 0);
    d.at(0, 0);
    d.mean(0);
    d.row(0, -1);
    is("finding()", d.finding(), SIZE);
    d.row(9, -1);
    d.day();
    is("BAD, STATE are none", d.finding(), SIZE);
    d.mean(0);
    is("finding()", d.finding(), NOUGHT);
    int[] due = {2, 1, 0, 2, 1};
    for (int f = 1; f <= 5; f++) is("findings(" + f + ")", d.findings(f), due[f - 1]);
  }

  private static void digest() {
    long h = 17;
    int[] empty = {0, 0, 0, 0, 0, 0, -9, 0, 0, 0, 0, 0, -1, -1, -1, -1, -1, -1, -1, -1, -1, -1, -1, -1, -1};
    for (int v : empty) h = 31 * h + v;
    is("digest of a new one", new StuckDoor().digest(), h);
    StuckDoor d = familyOf("f92h13d01");
    d.say(0, 0);
    d.keep(1);
    fill(d, 2, -5, 6);
    d.text(3, 1);
    d.put(3, 0, 200);
    int[] due = {1, 2, 0, 1, 1, 3, -9, 1, 1, 2, 1, 9, 2, 1, 1, 2, 3, 1, 2, -1, 1, -1, -1, -1, 2, -5, 6, -1, -1, -1,
      9, 'f', '9', '2', 'h', '1', '3', 'd', '0', '1', -1, -1, 1, -56};
    h = 17;
    for (int v : due) h = 31 * h + v;
    is("digest", d.digest(), h);
    d.at(9, 0);
    d.at(0, 0);
    d.saying(0, 0);
    is("digest has no findings, nothing asked", d.digest(), h);
  }

  /** Every call with wild numbers on a new object is refused by the document's order, and throws nothing. */
  private static void refusedAllOnNewObject() {
    int[] wild = {Integer.MIN_VALUE, -1, 99, Integer.MAX_VALUE};
    for (int a : wild) {
      StuckDoor d = new StuckDoor();
      long before = d.digest();
      int[] answers = {d.row(a, a), d.lay(a, a, a), d.at(a, a), d.tear(a), d.copy(a, a, a, a, a), d.mean(a), d.text(a, a),
        d.put(a, a, a), d.fault(a), d.family(a), d.saying(a, a), d.mark(a, a), d.bears(a), d.say(a, a), d.undo(a), d.keep(a),
        d.on(a), d.can(a), d.over(a), d.talk(a), d.waits(a, a), d.settle(a, a), d.least(a, a), d.rows(a, a), d.way(a, a),
        d.cuts(a, a), d.round(a, a), d.never(a), d.next(a), d.kinds(a, a, a, a), d.duel(a, a), d.opens(a, a), d.mid(a, a),
        d.odds(a, a, a, a), d.lots(a, a), d.count(a), d.findings(a)};
      for (int i = 0; i < answers.length; i++) is("wild " + a + ", call " + i, answers[i], BAD);
      is("nothing is changed", d.digest(), before);
    }
    StuckDoor d = new StuckDoor();
    int[] bad = {d.saying(0, 0), d.mark(0, 1), d.bears(0), d.say(0, 0), d.can(0), d.over(0), d.waits(0, 0), d.settle(0, 0),
      d.least(0, 0), d.rows(0, 0), d.kinds(0, 0, 0, 0), d.duel(0, 1), d.opens(0, 1), d.odds(0, 0, 0, 0)};
    for (int i = 0; i < bad.length; i++) is("no FAMILY, call " + i, bad[i], BAD);
  }
}
