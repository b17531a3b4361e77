import java.util.function.Supplier;

/** The edges of promises 15 to 26 (deeds, who can say what, settling): a test for each sentence. */
public final class DeedsEdgesTest {
  private static final int BAD = Edges.BAD, FULL = Edges.FULL, FINDING = Edges.FINDING, STATE = Edges.STATE, NONE = Edges.NONE;
  private static final int NOTHING = Edges.NOTHING, UNLIKE = Edges.UNLIKE, SIZE = Edges.SIZE, MIN = Edges.MIN, MAX = Edges.MAX;
  private static final int[] NO_PEOPLE = {MIN, -1, 4, MAX}, NO_SAYINGS = {MIN, -1, 6, MAX}, NO_PLACES = {MIN, -1, 3, MAX},
    NO_ROWS = {MIN, -1, 6, MAX}, NO_TURNS = {MIN, -1, 6, MAX};

  public static void main(String[] args) {
    say(); day(); undo(); keep(); on(); can(); over(); talk(); talkRefused(); waits(); settle(); settleRefused(); least(); rows();
    Edges.end(Edges.promises(15, 26));
  }

  private static void say() {
    Edges.promise(15, "One says a SAYING: STRAIN then.", () -> {
      StuckDoor d = Edges.of("f9990s00s10h00w90");
      Edges.is("not NEAR at all", d.say(3, 0), 0);
      Edges.is("1", d.say(0, 1), 1);
      Edges.is("a HINT at first", d.say(1, 2), 1);
      Edges.is("a HINT then", d.say(2, 2), 2);
      Edges.is("a WILL", d.say(0, 3), 9);
      Edges.is("DEEDS", d.count(3), 5);
      Edges.is("nobody is OVER", d.count(6), NONE);
      Edges.is("by one who BEARS less", d.say(3, 0), 9);
      Edges.is("that one is OVER", d.count(6), 3);
      StuckDoor most = Edges.of("f9p90s90");
      most.say(0, 1);
      Edges.is("far above", most.say(0, 0), 27);
      Edges.is("OVER", most.count(6), 0);
      // a WILL settles its own TOPICS behind what it adds
      StuckDoor will = Edges.of("f9w07");
      Edges.is("a WILL at first", will.say(0, 0), 3);
      Edges.is("a WILL then", will.say(0, 0), 3);
    });
    Edges.promise(15, "BAD; STATE: one is OVER; FULL: 40 DEEDS. (FULL last.)", () -> {
      for (int x : NO_PEOPLE) Edges.bad("one " + x, d -> d.say(x, 0));
      for (int i : NO_SAYINGS) Edges.bad("SAYING " + i, d -> d.say(0, i));
      Edges.refused("nobody there", Edges::bare, BAD, d -> d.say(0, 0));
      Edges.refused("one is OVER", Edges::over, STATE, d -> d.say(0, 3));
      Edges.refused("STATE ahead of FULL", Edges::overFull, STATE, d -> d.say(0, 3));
      Edges.refused("FULL", Edges::full, FULL, d -> d.say(0, 3));
      StuckDoor d = Edges.full();
      d.undo(39);
      Edges.is("the 40th", d.say(0, 0), 3);
      Edges.is("no 41st", d.say(0, 3), FULL);
      d.undo(38);
      Edges.is("the 39th", d.say(0, 0), 3);
      Edges.is("the 40th, by which one is OVER", d.say(2, 2), 6);
      Edges.is("then STATE, not FULL", d.say(0, 0), STATE);
    });
  }

  private static void day() {
    Edges.promise(16, "A DAY: STRAIN then.", () -> {
      StuckDoor d = Edges.of("f9s90");
      Edges.is("of 0", d.day(), 0);
      d.say(0, 0);
      for (int n = 8; n >= 0; n--) Edges.is("a DAY", d.day(), n);
      Edges.is("0 at least", d.day(), 0);
      Edges.is("DAYS", d.count(2), 11);
      Edges.is("DEEDS", d.count(3), 12);
      StuckDoor over = Edges.over();
      Edges.is("though one is OVER", over.day(), 6);
      Edges.is("who stays so", over.count(6), 2);
      Edges.is("TOPICS stay settled", over.count(5), 3);
    });
    Edges.promise(16, "STATE: no SAYINGS; FULL. (FULL last.)", () -> {
      Edges.refused("no SAYINGS", Edges::bare, STATE, d -> d.day());
      Edges.refused("no SAYINGS", Edges::fresh, STATE, d -> d.day());
      Edges.refused("FULL", Edges::full, FULL, d -> d.day());
      Edges.refused("FULL, one is OVER", Edges::overFull, FULL, d -> d.day());
      StuckDoor d = Edges.full();
      d.undo(39);
      Edges.is("the 40th", d.day(), 0);
      Edges.is("no 41st", d.day(), FULL);
    });
  }

  private static void undo() {
    Edges.promise(17, "DEEDS from number n on are undone: how many.", () -> {
      for (int n = 0; n <= 5; n++) {
        StuckDoor d = Edges.over();
        Edges.is("undo(" + n + ")", d.undo(n), 5 - n);
        int[] strain = {0, 2, 1, 1, 4, 7};
        int[] topics = {0, 2, 2, 2, 3, 3};
        int[] days = {0, 0, 1, 1, 1, 1};
        int[] jokes = {0, 0, 0, 1, 1, 1};
        Edges.is("DEEDS", d.count(3), n);
        Edges.is("STRAIN", d.count(4), strain[n]);
        Edges.is("TOPICS", d.count(5), topics[n]);
        Edges.is("DAYS", d.count(2), days[n]);
        Edges.is("OVER", d.count(6), n == 5 ? 2 : NONE);
        Edges.asks("said", d, jokes[n], d.saying(3, 4));
        Edges.is("kept ones stay", d.count(10), 2);
      }
      Edges.is("all forty", Edges.full().undo(0), 40);
      Edges.is("the last of forty", Edges.full().undo(39), 1);
      Edges.tells("none of forty", Edges::full, 0, d -> d.undo(40));
      Edges.tells("none of none", Edges::fresh, 0, d -> d.undo(0));
      StuckDoor d = Edges.over();
      d.undo(4);
      Edges.is("what is undone can be done otherwise", d.say(0, 3), 4);
      Edges.is("nobody is OVER", d.count(6), NONE);
      Edges.is("asked() stays", d.asked(), 1421);
    });
    Edges.promise(17, "BAD.", () -> {
      for (int n : new int[] {MIN, -1, 41, MAX}) Edges.bad("undo(" + n + ")", d -> d.undo(n));
      Edges.refused("more than there are", Edges::rich, BAD, d -> d.undo(5));
      Edges.refused("more than there are", Edges::bare, BAD, d -> d.undo(1));
    });
  }

  private static void keep() {
    Edges.promise(18, "The FAMILY (as it is, DEEDS) is kept in a place (0 .. 2): how many DEEDS.", () -> {
      StuckDoor none = Edges.of(Edges.ALL);
      Edges.is("none", none.keep(0), 0);
      Edges.is("one is kept", none.count(10), 1);
      StuckDoor d = Edges.over();
      Edges.is("in place 2", d.keep(2), 5);
      Edges.is("all three", d.count(10), 3);
      d.undo(0);
      Edges.is("in place 0 again", d.keep(0), 0);
      Edges.is("all three still", d.count(10), 3);
      Edges.is("as it was", d.on(2), 5);
      Edges.is("one is OVER", d.count(6), 2);
      Edges.is("what was kept there is gone", d.on(0), 0);
      Edges.is("another place stays", d.on(1), 3);
      Edges.is("forty", Edges.full().keep(0), 40);
      StuckDoor full = Edges.full();
      full.keep(2);
      full.undo(0);
      Edges.is("forty", full.on(2), 40);
      Edges.is("DAYS", full.count(2), 37);
    });
    Edges.promise(18, "BAD; STATE: no SAYINGS.", () -> {
      for (int k : NO_PLACES) Edges.bad("place " + k, d -> d.keep(k));
      for (int k = 0; k <= 2; k++) {
        final int place = k;
        Edges.refused("no SAYINGS", Edges::bare, STATE, d -> d.keep(place));
      }
    });
  }

  private static void on() {
    Edges.promise(19, "The FAMILY is as it was kept: how many DEEDS.", () -> {
      for (Supplier<StuckDoor> maker : Edges.states().subList(1, 5)) {
        for (int k = 0; k <= 1; k++) {
          StuckDoor d = maker.get();
          StuckDoor twin = Edges.over();
          twin.undo(k == 0 ? 1 : 3);
          Edges.is("on(" + k + ")", d.on(k), k == 0 ? 1 : 3);
          Edges.same("as it was", d, twin);
        }
      }
      StuckDoor d = Edges.rich();
      d.keep(2);
      d.undo(0);
      d.say(0, 5);
      Edges.is("from other DEEDS", d.on(2), 4);
      StuckDoor twin = Edges.rich();
      twin.keep(2);
      Edges.same("as it was", d, twin);
      StuckDoor again = Edges.rich();
      again.on(0);
      again.say(0, 0);
      Edges.is("what is done then is not kept", again.on(0), 1);
      Edges.is("STRAIN", again.count(4), 2);
    });
    Edges.promise(19, "BAD; NOTHING.", () -> {
      for (int k : NO_PLACES) Edges.bad("on(" + k + ")", d -> d.on(k));
      Edges.findsAlways("missing", NOTHING, d -> d.on(2));
      for (int k = 0; k <= 2; k++) {
        final int place = k;
        Edges.finds("none is kept", Edges::bare, NOTHING, d -> d.on(place));
      }
    });
  }

  private static void can() {
    Edges.promise(20, "SAYINGS (bits) that one can say now and not be OVER", () -> {
      StuckDoor d = Edges.of("f3s20s30s40g60g80p10");
      Edges.is("as much as one BEARS, not 1 more", d.can(0), 1 | 2 | 8 | 32);
      d.say(0, 0);
      Edges.is("by STRAIN", d.can(0), 0);
      d.day();
      Edges.is("behind a DAY", d.can(0), 1 | 32);
      Edges.is("all six", Edges.of("f9s90s90s90s90s90s90").can(0), 63);
      Edges.is("none", Edges.of("f8s90").can(0), 0);
      Edges.is("nothing can be OVER of nothing", Edges.of("f0s00").can(0), 1);
      Edges.is("each for oneself", Edges.of("f25s30").can(0) * 10 + Edges.of("f25s30").can(1), 1);
    });
    Edges.promise(20, "(0: one is OVER).", () -> {
      for (int x = 0; x < 4; x++) {
        final int one = x;
        Edges.tells("can(" + x + ")", Edges::over, 0, d -> d.can(one));
        Edges.tells("can(" + x + ") behind DAYS", Edges::overFull, 0, d -> d.can(one));
      }
    });
    Edges.promise(20, "BAD.", () -> {
      for (int x : NO_PEOPLE) Edges.bad("can(" + x + ")", d -> d.can(x));
      Edges.refused("nobody there", Edges::bare, BAD, d -> d.can(0));
    });
  }

  private static void over() {
    Edges.promise(21, "PEOPLE (bits) who would be OVER, if they said a SAYING now", () -> {
      Edges.is("1 more than one BEARS, not as much", Edges.of("f4567s60").over(0), 1 | 2);
      Edges.is("all", Edges.of("f0000s10").over(0), 15);
      Edges.is("nobody", Edges.of("f9999s90").over(0), 0);
      StuckDoor d = Edges.of("f9450s40s00");
      Edges.is("at first", d.over(0), 8);
      d.say(0, 0);
      Edges.is("by STRAIN", d.over(0), 2 | 4 | 8);
      Edges.is("by STRAIN alone", d.over(1), 8);
      d.day();
      Edges.is("behind a DAY", d.over(0), 2 | 4 | 8);
      Edges.is("behind a DAY", d.over(1), 8);
    });
    Edges.promise(21, "(0: one is OVER already).", () -> {
      for (int i = 0; i < 6; i++) {
        final int saying = i;
        Edges.tells("over(" + i + ")", Edges::over, 0, d -> d.over(saying));
      }
    });
    Edges.promise(21, "BAD.", () -> {
      for (int i : NO_SAYINGS) Edges.bad("over(" + i + ")", d -> d.over(i));
      Edges.refused("no SAYINGS", Edges::bare, BAD, d -> d.over(0));
    });
  }

  private static void talks(String what, StuckDoor d, int said, int strain) {
    long before = d.digest();
    Edges.is(what, d.talk(0), said);
    Edges.is(what + ": STRAIN", d.asked(), strain);
    Edges.is(what + ": aside", d.digest(), before);
  }

  private static void talk() {
    Edges.promise(22, "By a ROW of pairs (one of PEOPLE, a SAYING; 0 to 10 pairs): how many are said till one is OVER "
      + "(that one, too; all: nobody is); STRAIN then by asked().", () -> {
        StuckDoor d = Edges.fill(Edges.of("f93s10h00w01"), 0);
        talks("no pairs", d, 0, 0);
        d.row(0, 20);
        for (int k = 0; k < 10; k++) d.lay(0, 2 * k + 1, 0);
        talks("ten pairs, the last one is OVER", d, 10, 10);
        for (int k = 0; k < 10; k++) d.lay(0, 2 * k, 1);
        talks("till one is OVER", d, 4, 4);
        Edges.fill(d, 0, 1, 0, 1, 0, 1, 0);
        talks("all: nobody is", d, 3, 3);
        Edges.fill(d, 0, 0, 1, 0, 1, 0, 1);
        talks("a HINT more each time", d, 3, 3);
        Edges.fill(d, 0, 0, 2, 0, 2);
        talks("a WILL, less when its TOPIC is settled", d, 2, 5);
        Edges.fill(d, 0, 1, 2, 1, 2, 0, 0);
        talks("what stands behind one OVER is not said", d, 2, 5);
        d.say(0, 0);
        d.say(0, 1);
        Edges.fill(d, 0, 1, 1);
        talks("from now on", d, 1, 2);
        d.row(0, 0);
        talks("no pairs now", d, 0, 1);
        StuckDoor full = Edges.fill(Edges.full(), 0, 0, 1);
        talks("what is only told is no DEED", full, 1, 3);
        StuckDoor ten = Edges.fill(Edges.of("f9s00"), 0, new int[20]);
        talks("ten pairs, nobody is", ten, 10, 0);
      });
  }

  private static void talkRefused() {
    Edges.promise(22, "BAD; STATE: one is OVER, or no SAYINGS; NOTHING; SIZE: not by pairs, too many; UNLIKE. (In this order.)",
      () -> {
        for (int r : NO_ROWS) Edges.bad("BAD ahead of all", d -> d.talk(r));
        for (int r = 0; r <= 5; r++) {
          final int row = r;
          Edges.refused("one is OVER, ahead of what ROW " + r + " is", Edges::over, STATE, d -> d.talk(row));
          Edges.refused("no SAYINGS, ahead of what ROW " + r + " is", Edges::bare, STATE, d -> d.talk(row));
        }
        Edges.finds("missing", Edges::rich, NOTHING, d -> d.talk(5));
        Edges.finds("missing, 40 DEEDS", Edges::full, NOTHING, d -> d.talk(5));
        for (int n : new int[] {1, 3, 19, 21, 22, 39, 40}) {
          Edges.finds(n + " ints", () -> Edges.fill(Edges.rich(), 0, new int[n]), SIZE, d -> d.talk(0));
          Supplier<StuckDoor> unlike = () -> { StuckDoor d = Edges.fill(Edges.rich(), 0, new int[n]); d.lay(0, 0, 9); return d; };
          Edges.finds(n + " ints, SIZE ahead of UNLIKE", unlike, SIZE, d -> d.talk(0));
        }
        for (int n : new int[] {0, 2, 18, 20}) {
          Edges.is(n + " ints", Edges.fill(Edges.rich(), 0, new int[n]).talk(0) >= 0 ? 1 : 0, 1);
        }
        for (int x : NO_PEOPLE) unlike("one " + x, x, 0);
        for (int i : NO_SAYINGS) unlike("SAYING " + i, 0, i);
        Edges.is("the last one, the last SAYING", Edges.fill(Edges.rich(), 0, 3, 5).talk(0), 1);
      });
  }

  /** UNLIKE as the first pair, as the last one, and behind one by whom one is OVER. */
  private static void unlike(String what, int x, int i) {
    Edges.finds(what + " at first", () -> Edges.fill(Edges.rich(), 0, x, i, 0, 3), UNLIKE, d -> d.talk(0));
    Edges.finds(what + " at last", () -> Edges.fill(Edges.rich(), 0, 0, 3, x, i), UNLIKE, d -> d.talk(0));
    Edges.finds(what + " behind one OVER", () -> Edges.fill(Edges.rich(), 0, 2, 0, x, i), UNLIKE, d -> d.talk(0));
  }

  private static void waits() {
    Edges.promise(23, "How many DAYS one must wait at least, till a SAYING can be said and one not be OVER.", () -> {
      StuckDoor d = Edges.of("f95s40s90s00h20w00");
      Edges.is("none", d.waits(0, 1), 0);
      Edges.is("none", d.waits(1, 0), 0);
      d.say(0, 0);
      d.say(0, 0);
      int[][] due = {{0, 0, 3}, {1, 0, 7}, {0, 1, 8}, {0, 2, 0}, {1, 2, 3}, {0, 3, 1}, {1, 3, 5}, {0, 4, 2}, {1, 4, 6}};
      for (int[] one : due) Edges.is("waits(" + one[0] + ", " + one[1] + ")", d.waits(one[0], one[1]), one[2]);
      for (int n = 1; n <= 8; n++) {
        d.day();
        Edges.is("behind " + n + " DAYS", d.waits(0, 1), 8 - n);
      }
      Edges.is("then", d.can(0) >> 1 & 1, 1);
      StuckDoor full = Edges.of("f9s90");
      for (int n = 0; n < 39; n++) full.day();
      full.say(0, 0);
      Edges.tells("DAYS that can't be DEEDS any more", Edges::full, 0, e -> e.waits(0, 0));
      Edges.is("DAYS that can't be DEEDS any more", full.waits(0, 0), 9);
    });
    Edges.promise(23, "NONE: never.", () -> {
      StuckDoor d = Edges.of("f85s80s90p40p50g90");
      Edges.is("as much as one BEARS", d.waits(0, 0), 0);
      Edges.is("1 more", d.waits(0, 1), NONE);
      Edges.is("as much as one BEARS", d.waits(0, 2), 0);
      Edges.is("more", d.waits(0, 3), NONE);
      Edges.is("another one", d.waits(1, 0), NONE);
      Edges.is("half", d.waits(1, 4), 0);
      d.say(0, 0);
      Edges.is("as much as one BEARS, behind all STRAIN", d.waits(0, 0), 8);
      Edges.is("1 more", d.waits(0, 1), NONE);
      d.undo(0);
      d.say(0, 2);
      Edges.is("not by what it comes to now", d.waits(0, 2), NONE);
    });
    Edges.promise(23, "BAD; STATE: one is OVER.", () -> {
      for (int x : NO_PEOPLE) Edges.bad("one " + x, d -> d.waits(x, 0));
      for (int i : NO_SAYINGS) Edges.bad("SAYING " + i, d -> d.waits(0, i));
      Edges.refused("nobody there", Edges::bare, BAD, d -> d.waits(0, 0));
      Edges.refused("one is OVER", Edges::over, STATE, d -> d.waits(0, 0));
      Edges.refused("STATE, not NONE", Edges::over, STATE, d -> d.waits(2, 4));
    });
  }

  private static void settle() {
    Edges.promise(24, "The fewest TURNS by which all three TOPICS are settled, nobody being OVER", () -> {
      StuckDoor d = Edges.of("f99s01s02s04s03");
      Edges.is("two TOPICS at once", d.settle(0, 0), 2);
      Edges.is("three", Edges.of("f99s01s02s04").settle(0, 0), 3);
      Edges.is("one", Edges.of("f99s01s07").settle(0, 0), 1);
      d.say(0, 0);
      d.say(0, 1);
      Edges.is("one is open", d.settle(0, 0), 1);
      d.say(0, 2);
      Edges.is("none is open", d.settle(0, 0), 0);
      Edges.is("as much as one BEARS", Edges.of("f5s57").settle(0, 0), 1);
      Edges.is("1 more: nobody being OVER", Edges.of("f5s67").settle(0, 0), NONE);
      Edges.is("by another one", Edges.of("f56s67").settle(0, 0), 2);
      Edges.is("DEEDS are not asked for", Edges.full().settle(0, 0), 1);
    });
    Edges.promise(24, "the first such row of TURNS (-9: silent) comes to a ROW (anew).", () -> {
      StuckDoor d = Edges.rich();
      Edges.is("to a ROW that is there", d.settle(3, 2), 2);
      Edges.rowIs("anew", d, 2, NONE, 2);
      Edges.is("to a missing one", d.settle(0, 5), 1);
      Edges.rowIs("anew", d, 5, 2);
      Edges.is("it is there", d.count(8), 6);
      Edges.rowIs("others stay", d, 0, 7, -8, 9);
      d.say(0, 5);
      Edges.is("no TURNS", d.settle(1, 4), 0);
      Edges.rowIs("a ROW of none", d, 4);
      StuckDoor five = Edges.of("f5s57s40");
      five.say(0, 1);
      Edges.is("five TURNS", five.settle(0, 0), 5);
      Edges.rowIs("silent ones", five, 0, NONE, NONE, NONE, NONE, 0);
      Edges.is("asked() is not its own", five.asked() + five.settle(0, 1), 5);
      Edges.is("no DEEDS", five.count(3), 1);
      Edges.is("STRAIN stays", five.count(4), 4);
    });
    Edges.promise(24, "NONE: not by 5.", () -> {
      StuckDoor d = Edges.of("f5s57s50");
      d.say(0, 1);
      StuckDoor twin = Edges.of("f5s57s50");
      twin.say(0, 1);
      Edges.is("by 6", d.settle(0, 0), NONE);
      Edges.same("no ROW comes", d, twin);
      Edges.tells("a ROW that is there stays", () -> {
        StuckDoor e = Edges.fill(Edges.of("f5s57s50"), 0, 4, 5, 6);
        e.say(0, 1);
        return e;
      }, NONE, e -> e.settle(0, 0));
      StuckDoor five = Edges.of("f5s57s40");
      five.say(0, 1);
      Edges.is("by 5", five.settle(0, 0), 5);
      Edges.is("never", Edges.of("f9s03").settle(0, 0), NONE);
      Edges.is("two of three alone", Edges.of("f9s05s04s01").settle(0, 0), NONE);
    });
  }

  private static void settleRefused() {
    Edges.promise(24, "BAD; STATE: one is OVER, or no SAYINGS.", () -> {
      for (int x : NO_PEOPLE) Edges.bad("one " + x, d -> d.settle(x, 0));
      for (int r : NO_ROWS) Edges.bad("ROW " + r, d -> d.settle(0, r));
      Edges.refused("nobody there", Edges::bare, BAD, d -> d.settle(0, 0));
      for (int r = 0; r <= 5; r++) {
        final int row = r;
        Edges.refused("one is OVER", Edges::over, STATE, d -> d.settle(0, row));
      }
      Edges.refused("one is OVER, all is settled", () -> {
        StuckDoor d = Edges.of("f5s97");
        d.say(0, 0);
        return d;
      }, STATE, d -> d.settle(0, 0));
    });
  }

  private static void least() {
    Edges.promise(25, "The least STRAIN behind just n TURNS by which all TOPICS are settled, nobody being OVER.", () -> {
      StuckDoor d = Edges.of("f9s57s02s05");
      int[] due = {NONE, 5, 0, 0, 0, 0};
      for (int n = 0; n <= 5; n++) Edges.is("just " + n, d.least(0, n), due[n]);
      StuckDoor one = Edges.of("f9s37");
      int[] eased = {NONE, 3, 2, 1, 0, 0};
      for (int n = 0; n <= 5; n++) Edges.is("just " + n, one.least(0, n), eased[n]);
      one.say(0, 0);
      int[] settled = {3, 2, 1, 0, 0, 0};
      for (int n = 0; n <= 5; n++) Edges.is("settled ahead, just " + n, one.least(0, n), settled[n]);
      Edges.is("nobody being OVER", Edges.of("f23s37").least(0, 1), NONE);
      Edges.is("by another one", Edges.of("f23s37").least(0, 2), 3);
      Edges.tells("aside", Edges::full, 2, e -> e.least(0, 1));
    });
    Edges.promise(25, "NONE: by none.", () -> {
      StuckDoor d = Edges.of("f9s03s03");
      for (int n = 0; n <= 5; n++) Edges.is("never", d.least(0, n), NONE);
      StuckDoor s = Edges.of("f9s17");
      Edges.is("by one", s.least(0, 1), 1);
      Edges.is("by none, behind one that was", s.least(0, 0), NONE);
    });
    Edges.promise(25, "BAD; STATE.", () -> {
      for (int x : NO_PEOPLE) Edges.bad("one " + x, d -> d.least(x, 0));
      for (int n : NO_TURNS) Edges.bad(n + " TURNS", d -> d.least(0, n));
      Edges.refused("nobody there", Edges::bare, BAD, d -> d.least(0, 0));
      for (int n = 0; n <= 5; n++) {
        final int turns = n;
        Edges.refused("one is OVER", Edges::over, STATE, d -> d.least(3, turns));
      }
    });
  }

  private static void rows(String what, StuckDoor d, int x, int n, long number, int topics) {
    Edges.shares(what, d, d.rows(x, n), number, 1);
    Edges.is(what + ": TOPICS", d.asked(), topics);
  }

  private static void rows() {
    Edges.promise(26, "How many rows of n TURNS there are by which nobody is OVER, told by upper() (lower() is 1); "
      + "TOPICS (bits) that can be settled by one of these by asked(): 1.", () -> {
        StuckDoor most = Edges.of("f9s00s00s00s00s00s07");
        for (int n = 0, due = 1; n <= 5; n++, due *= 7) rows("all of " + n, most, 0, n, due, n == 0 ? 0 : 7);
        rows("none, behind others", most, 0, 0, 1, 0);
        StuckDoor least = Edges.of("f0s17");
        for (int n = 0; n <= 5; n++) rows("silent ones alone", least, 0, n, 1, 0);
        StuckDoor edge = Edges.of("f3s21s32s44");
        rows("as much as one BEARS, not 1 more", edge, 0, 1, 3, 3);
        rows("by STRAIN", edge, 0, 2, 5, 3);
        StuckDoor two = Edges.of("f04s44");
        rows("who is silent", two, 0, 1, 1, 0);
        rows("behind whom another one", two, 0, 2, 2, 4);
        rows("behind whom the first", two, 1, 2, 2, 4);
        two.say(1, 0);
        rows("what is settled", two, 0, 0, 1, 4);
        StuckDoor apart = Edges.of("f1s11s12");
        rows("by one of these, not all by the same", apart, 0, 1, 3, 3);
        StuckDoor told = Edges.of("f9s90");
        told.say(0, 0);
        told.mid(1, 6);
        Edges.is("lower() ahead", told.lower(), 2);
        rows("lower() is 1 again", told, 0, 1, 1, 0);
        StuckDoor aside = Edges.full();
        long before = aside.digest();
        rows("DEEDS are not asked for", aside, 0, 1, 7, 7);
        Edges.is("aside", aside.digest(), before);
      });
    Edges.promise(26, "BAD; STATE.", () -> {
      for (int x : NO_PEOPLE) Edges.bad("one " + x, d -> d.rows(x, 0));
      for (int n : NO_TURNS) Edges.bad(n + " TURNS", d -> d.rows(0, n));
      Edges.refused("nobody there", Edges::bare, BAD, d -> d.rows(0, 0));
      for (int n = 0; n <= 5; n++) {
        final int turns = n;
        Edges.refused("one is OVER", Edges::over, STATE, d -> d.rows(3, turns));
      }
      Edges.is("no FINDING", Edges.over().rows(0, 0) == FINDING ? 1 : 0, 0);
    });
  }
}
