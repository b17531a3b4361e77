import java.math.BigInteger;
import java.util.Arrays;
import java.util.function.Supplier;

/** The edges of promises 27 to 45 (the house, what it is, by turns, chances, what is told): a test for each sentence. */
public final class ToldEdgesTest {
  private static final int BAD = Edges.BAD, FULL = Edges.FULL, FINDING = Edges.FINDING, STATE = Edges.STATE, NONE = Edges.NONE;
  private static final int NOTHING = Edges.NOTHING, BEYOND = Edges.BEYOND, UNLIKE = Edges.UNLIKE, NOUGHT = Edges.NOUGHT,
    SIZE = Edges.SIZE, MIN = Edges.MIN, MAX = Edges.MAX;
  private static final int[] NO_PEOPLE = {MIN, -1, 4, MAX}, NO_SAYINGS = {MIN, -1, 6, MAX}, NO_ROWS = {MIN, -1, 6, MAX},
    NO_ROOMS = {MIN, -1, 12, MAX}, NO_TWELFTHS = {MIN, -1, 13, MAX};
  /** One way alone leads from 0 to 3: 0, 4, 8, 9, 10, 6, 2, 3. */
  private static final String BEND = "f1s11d01d05d07";
  private static final String ALL_STUCK = "f1s11d00d01d02d03d04d05d06d07d08d09d10d11";

  public static void main(String[] args) {
    stuck(); way(); cuts(); round(); never(); next(); nextRefused(); kinds(); duel(); opens(); mid(); odds(); lots();
    asked(); upperAndLower(); count(); finding(); findings(); digest();
    Edges.end(Edges.promises(27, 45));
  }

  private static void stuck() {
    Edges.promise(27, "ROOMS (bits) that are STUCK.", () -> {
      Edges.tells("none at first", Edges::fresh, 0, d -> d.stuck());
      Edges.is("none", Edges.of("f1s11").stuck(), 0);
      for (int room = 0; room < 12; room++) {
        String two = (room < 10 ? "0" : "") + room;
        Edges.is("ROOM " + room, Edges.of("f1s11d" + two).stuck(), 1 << room);
      }
      Edges.is("all", Edges.of(ALL_STUCK).stuck(), 4095);
      StuckDoor d = Edges.of(ALL_STUCK);
      Edges.write(d, 0, "f1s11");
      d.family(0);
      Edges.is("none anew", d.stuck(), 0);
      Edges.tells("DEEDS are nothing to it", Edges::overFull, 96, e -> e.stuck());
    });
  }

  private static void way() {
    Edges.promise(28, "The fewest steps from a ROOM to another one (0: itself).", () -> {
      StuckDoor d = Edges.of(BEND);
      int[] due = {0, NONE, 6, 7, 1, NONE, 5, NONE, 2, 3, 4, 5};
      for (int b = 0; b < 12; b++) {
        Edges.is("way(0, " + b + ")", d.way(0, b), due[b]);
        Edges.is("and back", d.way(b, 0), due[b]);
      }
      for (int a = 0; a < 12; a++) Edges.is("itself", Edges.fresh().way(a, a), 0);
      Edges.is("from 3 to 4", Edges.fresh().way(3, 4), 4);
      Edges.is("from 7 to 8", Edges.fresh().way(7, 8), 4);
      Edges.tells("the longest", () -> Edges.of("f1s11d01d05d07"), 7, e -> e.way(3, 0));
    });
    Edges.promise(28, "NONE: there is no way, or one is STUCK.", () -> {
      StuckDoor corner = Edges.of("f1s11d01d04");
      for (int b = 2; b < 12; b++) Edges.is("no way to " + b, corner.way(0, b), NONE);
      Edges.is("itself", corner.way(0, 0), 0);
      Edges.is("the first is STUCK", corner.way(1, 2), NONE);
      Edges.is("the other one is STUCK", corner.way(2, 1), NONE);
      Edges.is("both are", corner.way(1, 4), NONE);
      Edges.is("itself, STUCK", corner.way(1, 1), NONE);
      StuckDoor all = Edges.of(ALL_STUCK);
      for (int a = 0; a < 12; a++) Edges.is("all are STUCK", all.way(a, a), NONE);
    });
    Edges.promise(28, "BAD.", () -> {
      for (int room : NO_ROOMS) {
        Edges.bad("from " + room, d -> d.way(room, 0));
        Edges.bad("to " + room, d -> d.way(0, room));
        Edges.bad("BAD ahead of NONE", d -> d.way(5, room));
        Edges.bad("itself", d -> d.way(room, room));
      }
      Edges.is("the last ROOM", Edges.fresh().way(11, 11), 0);
    });
  }

  private static void cuts() {
    Edges.promise(29, "ROOMS (bits) that are on each way from a ROOM to another one (both, too; 0: there is none).", () -> {
      StuckDoor d = Edges.of(BEND);
      Edges.is("one way alone", d.cuts(0, 3), 1 | 1 << 4 | 1 << 8 | 1 << 9 | 1 << 10 | 1 << 6 | 1 << 2 | 1 << 3);
      Edges.is("and back", d.cuts(3, 0), d.cuts(0, 3));
      Edges.is("both, too", Edges.fresh().cuts(0, 1), 3);
      Edges.is("both, too", Edges.fresh().cuts(0, 11), 1 | 1 << 11);
      Edges.is("a longer way round counts too", Edges.of("f1s11d04").cuts(0, 8), 1 | 2 | 1 << 8 | 1 << 9);
      for (int a = 0; a < 12; a++) Edges.is("itself", Edges.fresh().cuts(a, a), 1 << a);
      StuckDoor corner = Edges.of("f1s11d01d04");
      Edges.is("there is none", corner.cuts(0, 11), 0);
      Edges.is("out of a STUCK one", corner.cuts(1, 2), 0);
      Edges.is("into a STUCK one", corner.cuts(2, 1), 0);
      Edges.is("a STUCK one itself", corner.cuts(1, 1), 0);
      Edges.is("itself", corner.cuts(0, 0), 1);
    });
    Edges.promise(29, "BAD.", () -> {
      for (int room : NO_ROOMS) {
        Edges.bad("from " + room, d -> d.cuts(room, 0));
        Edges.bad("to " + room, d -> d.cuts(5, room));
      }
    });
  }

  private static void round() {
    Edges.promise(30, "How many steps longer the way is by STUCK ROOMS than it was without any.", () -> {
      StuckDoor d = Edges.of(BEND);
      int[] due = {0, NONE, 4, 4, 0, NONE, 2, NONE, 0, 0, 0, 0};
      for (int b = 0; b < 12; b++) Edges.is("round(0, " + b + ")", d.round(0, b), due[b]);
      for (int a = 0; a < 12; a++) Edges.is("itself", Edges.fresh().round(a, 11), 0);
    });
    Edges.promise(30, "NONE: there is none now.", () -> {
      StuckDoor corner = Edges.of("f1s11d01d04");
      Edges.is("no way", corner.round(0, 11), NONE);
      Edges.is("out of a STUCK one", corner.round(1, 2), NONE);
      Edges.is("into a STUCK one", corner.round(2, 1), NONE);
      Edges.is("a STUCK one itself", corner.round(4, 4), NONE);
      Edges.is("itself", corner.round(0, 0), 0);
    });
    Edges.promise(30, "BAD.", () -> {
      for (int room : NO_ROOMS) {
        Edges.bad("from " + room, d -> d.round(room, 0));
        Edges.bad("to " + room, d -> d.round(5, room));
      }
    });
  }

  private static void never() {
    Edges.promise(31, "TOPICS (bits of 0 .. 7) that no SAYING of a ROW of SAYINGS (0 to 12) has.", () -> {
      StuckDoor d = Edges.of("f9s00s01s02s04s03s07");
      int[][] due = {{7}, {7, 0}, {6, 1}, {5, 2}, {3, 3}, {4, 4}, {0, 5}, {4, 1, 2}, {0, 3, 4}, {6, 1, 1, 1},
        {7, 0, 0, 0, 0, 0, 0, 0, 0, 0, 0, 0, 0}, {3, 0, 0, 0, 0, 0, 0, 0, 0, 0, 0, 0, 3}, {0, 5, 0, 0, 0, 0, 0, 0, 0, 0, 0, 0, 0}};
      for (int[] one : due) {
        int[] ints = Arrays.copyOfRange(one, 1, one.length);
        Edges.fill(d, 5, ints);
        Edges.is("never of " + Arrays.toString(ints), d.never(5), one[0]);
      }
      Edges.tells("of none, though there are no SAYINGS", Edges::bare, 7, e -> e.never(1));
      Edges.tells("what was said is nothing to it", Edges::overFull, 4, e -> e.never(3));
    });
    Edges.promise(31, "BAD; NOTHING; SIZE: more than 12; UNLIKE: no SAYING.", () -> {
      for (int r : NO_ROWS) Edges.bad("never(" + r + ")", d -> d.never(r));
      Edges.findsAlways("missing", NOTHING, d -> d.never(5));
      for (int n : new int[] {13, 14, 40}) {
        for (Supplier<StuckDoor> maker : Edges.states()) {
          Edges.finds(n + " ints", () -> Edges.fill(maker.get(), 0, new int[n]), SIZE, d -> d.never(0));
          Supplier<StuckDoor> unlike = () -> { StuckDoor d = Edges.fill(maker.get(), 0, new int[n]); d.lay(0, 12, 6); return d; };
          Edges.finds(n + " ints, SIZE ahead of UNLIKE", unlike, SIZE, d -> d.never(0));
        }
      }
      Edges.is("twelve", Edges.fill(Edges.rich(), 0, new int[12]).never(0), 6);
      for (int i : NO_SAYINGS) {
        Edges.finds("the first, " + i, () -> Edges.fill(Edges.rich(), 0, i, 0), UNLIKE, d -> d.never(0));
        Edges.finds("the last, " + i, () -> Edges.fill(Edges.over(), 0, 0, i), UNLIKE, d -> d.never(0));
        Edges.finds("alone, " + i, () -> Edges.fill(Edges.full(), 0, i), UNLIKE, d -> d.never(0));
      }
      Edges.is("the last SAYING", Edges.fill(Edges.rich(), 0, 5).never(0), 1);
      Edges.finds("there are no SAYINGS", Edges::bare, UNLIKE, d -> d.never(3));
    });
  }

  private static void next(String what, StuckDoor d, int saying, int many) {
    Edges.is(what, d.next(0), saying);
    Edges.is(what + ": how many", d.asked(), many);
  }

  private static void next() {
    Edges.promise(32, "The SAYING (the first) that has most TOPICS that no SAYING of such a ROW has, of as many the least NEAR now; "
      + "how many by asked().", () -> {
        StuckDoor d = Edges.fill(Edges.of("f9s01s93s12s23h07"), 0);
        next("most TOPICS of none", d, 4, 3);
        Edges.fill(d, 0, 4);
        next("no TOPICS: the least NEAR, the first", d, 0, 0);
        Edges.fill(d, 0, 0);
        next("most TOPICS, not least NEAR", d, 4, 2);
        StuckDoor two = Edges.fill(Edges.of("f9s93s46s35s35"), 0);
        next("of as many the least NEAR, the first", two, 2, 2);
        Edges.fill(two, 0, 2);
        next("one is left", two, 1, 1);
        StuckDoor now = Edges.fill(Edges.of("f99h11h11w01"), 0);
        next("the first of these", now, 0, 1);
        now.say(0, 0);
        next("NEAR now", now, 1, 1);
        now.say(0, 1);
        next("NEAR now, of three", now, 0, 1);
        StuckDoor will = Edges.fill(Edges.of("f9s21w01s06"), 0, 2);
        next("a WILL is too NEAR", will, 0, 1);
        will.say(0, 2);
        next("a WILL is nearer to nothing now", will, 1, 1);
        StuckDoor twelve = Edges.fill(Edges.of("f9s01s06"), 0, new int[12]);
        next("twelve", twelve, 1, 2);
        StuckDoor last = Edges.fill(Edges.of("f9s90s90s90s90s90s80"), 0);
        next("the last one", last, 5, 0);
        StuckDoor over = Edges.fill(Edges.overFull(), 0);
        next("though one is OVER, 40 DEEDS", over, 5, 2);
      });
  }

  private static void nextRefused() {
    Edges.promise(32, "BAD; STATE: no SAYINGS; NOTHING; SIZE; UNLIKE. (In this order.)", () -> {
      for (int r : NO_ROWS) Edges.bad("next(" + r + ")", d -> d.next(r));
      for (int r = 0; r <= 5; r++) {
        final int row = r;
        Edges.refused("no SAYINGS, ahead of what ROW " + r + " is", Edges::bare, STATE, d -> d.next(row));
      }
      for (Supplier<StuckDoor> maker : Edges.states().subList(1, 5)) {
        Edges.finds("missing", maker, NOTHING, d -> d.next(5));
        Edges.finds("13", () -> Edges.fill(maker.get(), 0, new int[13]), SIZE, d -> d.next(0));
        Edges.finds("forty, SIZE ahead of UNLIKE", maker, SIZE, d -> d.next(2));
        for (int i : NO_SAYINGS) {
          Edges.finds("the first, " + i, () -> Edges.fill(maker.get(), 0, i, 0), UNLIKE, d -> d.next(0));
          Edges.finds("the last, " + i, () -> Edges.fill(maker.get(), 0, 0, i), UNLIKE, d -> d.next(0));
        }
      }
      Supplier<StuckDoor> unlike = () -> { StuckDoor d = Edges.fill(Edges.rich(), 0, new int[13]); d.lay(0, 0, -1); return d; };
      Edges.finds("13, SIZE ahead of UNLIKE", unlike, SIZE, d -> d.next(0));
    });
  }

  private static void kinds() {
    Edges.promise(33, "Of which KINDS (bits) a SAYING can be, if it came so NEAR (0 .. 99) when it had been said n (0 .. 9) times, "
      + "so many TOPICS (0 .. 3) not being settled (how NEAR was told as it is).", () -> {
        for (int told = 0; told <= 9; told++) {
          StuckDoor d = Edges.of("f9h" + told + "0");
          for (int n = 0; n <= 9; n += 3) {
            for (int open = 0; open <= 3; open += 3) {
              int[] near = {told, told + n, told / 2, Math.max(0, told + n - 2), told / 2 + open, 2 * (told + n)};
              for (int one = 0; one <= 5; one++) {
                int due = 0;
                for (int kind = 0; kind <= 5; kind++) if (near[kind] == near[one]) due |= 1 << kind;
                Edges.is("told " + told + ", NEAR " + near[one] + ", " + n + ", " + open, d.kinds(0, near[one], n, open), due);
              }
            }
          }
        }
        Edges.is("all", Edges.of("f9s00").kinds(0, 0, 0, 0), 63);
        Edges.is("the most", Edges.of("f9s90").kinds(0, 36, 9, 3), 32);
        Edges.is("none comes so NEAR", Edges.of("f9s90").kinds(0, 99, 9, 3), 0);
        Edges.is("none comes so NEAR", Edges.of("f9s90").kinds(0, 0, 0, 0), 0);
        StuckDoor said = Edges.of("f9h20s07");
        said.say(0, 0);
        said.say(0, 1);
        Edges.is("as it was told, not as it comes now", said.kinds(0, 2, 0, 0), 3);
        Edges.is("so many open, not those now", said.kinds(0, 4, 0, 3), 16 | 32);
      });
    Edges.promise(33, "BAD.", () -> {
      for (int i : NO_SAYINGS) Edges.bad("SAYING " + i, d -> d.kinds(i, 0, 0, 0));
      for (int near : new int[] {MIN, -1, 100, MAX}) Edges.bad("NEAR " + near, d -> d.kinds(0, near, 0, 0));
      for (int n : new int[] {MIN, -1, 10, MAX}) Edges.bad("said " + n, d -> d.kinds(0, 0, n, 0));
      for (int open : new int[] {MIN, -1, 4, MAX}) Edges.bad("open " + open, d -> d.kinds(0, 0, 0, open));
      Edges.refused("no SAYINGS", Edges::bare, BAD, d -> d.kinds(0, 0, 0, 0));
      Edges.tells("the largest of all", Edges::overFull, 0, d -> d.kinds(5, 99, 9, 3));
      Edges.tells("the least of all", Edges::overFull, 1 << 2 | 1 << 3 | 1 << 4, d -> d.kinds(3, 0, 0, 0));
    });
  }

  private static void duels(String text, int first, int other, int due, int opens) {
    StuckDoor d = Edges.of(text);
    long before = d.digest();
    Edges.is("duel of " + text, d.duel(first, other), due);
    Edges.is("opens of " + text, d.opens(first, other), opens);
    Edges.is("aside", d.digest(), before);
  }

  private static void duel() {
    Edges.promise(34, "Two of PEOPLE say by turns one of the SAYINGS that neither has said yet in this, the first one begins, "
      + "each must; who is OVER by it has won, and would rather not: who is OVER, both playing best (0 the first one, "
      + "1 the other one", () -> {
        duels("f09s10", 0, 1, 0, 0);
        duels("f90s10s10", 0, 1, 1, 0);
        duels("f09s10s10", 1, 0, 1, 0);
        // as much as one BEARS is not OVER, 1 more is
        duels("f12s10s10", 0, 1, NONE, 0);
        duels("f11s10s10", 0, 1, 1, 0);
        // four PEOPLE: it is told which of the two, not who of all
        duels("f9099s10s10", 3, 1, 1, 0);
        duels("f9099s10", 1, 3, 0, 0);
        // each SAYING once: of one alone the first says it, and there is no second
        duels("f50s50", 0, 1, NONE, 0);
        // neither may say again what was said, by whomever: what is left must be said
        duels("f80s00s90", 0, 1, 1, 0);
        duels("f80s00s00s90", 0, 1, 0, 0);
        StuckDoor said = Edges.of("f54s20");
        said.say(0, 0);
        Edges.is("what was truly said can be said in this", said.duel(0, 1), NONE);
        said.say(0, 0);
        Edges.is("from STRAIN now", said.duel(0, 1), 0);
        StuckDoor hint = Edges.of("f40h10s00");
        Edges.is("a HINT", hint.duel(0, 1), 1);
        hint.say(0, 0);
        hint.say(0, 0);
        Edges.is("a HINT that was said twice", hint.duel(0, 1), 1);
        StuckDoor full = Edges.of("f90s10s10");
        for (int n = 0; n < 40; n++) full.day();
        Edges.is("what is only told is no DEED", full.duel(0, 1), 1);
      });
    Edges.promise(34, "NONE: nobody, all are said; each would rather have nobody OVER than be so oneself, "
      + "and the other one rather than nobody).", () -> {
        duels("f99s00s00s00s00s00s00", 0, 1, NONE, 0);
        duels("f99s00", 1, 0, NONE, 0);
        // the WILL ahead of what settles all leaves 4 to the other one, behind it 1
        duels("f93s17w00", 0, 1, 1, 1);
        // only by what settles all at first does the WILL come to nothing
        duels("f49w00s10s17", 0, 1, NONE, 2);
        // behind the last one the other one could have nobody OVER, but would rather have the first one so
        duels("f39w00s17s10", 0, 1, NONE, 1);
      });
    Edges.promise(34, "BAD: also the same; STATE: one is OVER, or no SAYINGS.", () -> {
      for (int x : NO_PEOPLE) {
        Edges.bad("the first one " + x, d -> d.duel(x, 0));
        Edges.bad("the other one " + x, d -> d.duel(0, x));
        Edges.bad("both " + x, d -> d.duel(x, x));
      }
      for (int x = 0; x < 4; x++) {
        final int one = x;
        Edges.bad("the same", d -> d.duel(one, one));
        Edges.refused("one is OVER", Edges::over, STATE, d -> d.duel(one, (one + 1) % 4));
      }
      Edges.refused("nobody there", Edges::bare, BAD, d -> d.duel(0, 1));
      Edges.is("one alone", Edges.of("f9s11").duel(0, 1), BAD);
    });
  }

  private static void opens() {
    Edges.promise(35, "The SAYING that the first one says first so (the first one by which it is so).", () -> {
      // all are as good: the first one
      duels("f99s10s20s00", 0, 1, NONE, 0);
      // all are as bad: the first one
      duels("f09s20s10", 0, 1, 0, 0);
      // one's own end is avoided
      duels("f20s90s10s10", 0, 1, 1, 1);
      // the last one alone is good
      duels("f10s90s90s90s90s90s10", 0, 1, 1, 5);
      duels("f93w00s17", 0, 1, 1, 0);
      // nobody rather than oneself
      duels("f29w00s17", 0, 1, NONE, 1);
      Edges.tells("aside", Edges::full, Edges.full().opens(0, 1), d -> d.opens(0, 1));
    });
    Edges.promise(35, "BAD; STATE.", () -> {
      for (int x : NO_PEOPLE) {
        Edges.bad("the first one " + x, d -> d.opens(x, 0));
        Edges.bad("the other one " + x, d -> d.opens(0, x));
      }
      for (int x = 0; x < 4; x++) {
        final int one = x;
        Edges.bad("the same", d -> d.opens(one, one));
        Edges.refused("one is OVER", Edges::over, STATE, d -> d.opens(one, (one + 1) % 4));
      }
      Edges.refused("nobody there", Edges::bare, BAD, d -> d.opens(0, 1));
    });
  }

  private static void mid() {
    Edges.promise(36, "The mean of STRAIN behind n (0 .. 12) DAYS, if on each it does not ease by p (0 .. 12) of 12: 1.", () -> {
      StuckDoor d = Edges.of("f9s90");
      Edges.shares("of 0", d, d.mid(0, 0), 0, 1);
      Edges.shares("of 0", d, d.mid(12, 6), 0, 1);
      d.say(0, 0);
      for (int n = 0; n <= 12; n++) {
        Edges.shares("always eases", d, d.mid(n, 0), Math.max(0, 9 - n), 1);
        Edges.shares("never eases", d, d.mid(n, 12), 9, 1);
      }
      for (int p = 0; p <= 12; p++) {
        long common = BigInteger.valueOf(96 + p).gcd(BigInteger.valueOf(12)).longValue();
        Edges.shares("a DAY", d, d.mid(1, p), (96 + p) / common, 12 / common);
      }
      Edges.shares("0 at least", d, d.mid(12, 11), 7925422621589L, 990677827584L);
      StuckDoor over = Edges.over();
      Edges.shares("though one is OVER", over, over.mid(7, 0), 0, 1);
      Edges.shares("though one is OVER", over, over.mid(6, 0), 1, 1);
      Edges.is("asked() stays", over.asked(), 1421);
      StuckDoor far = Edges.of("f9p90s90");
      far.say(0, 1);
      far.say(0, 0);
      Edges.shares("of 27, one DAY", far, far.mid(1, 6), 53, 2);
      Edges.shares("of 27, twelve DAYS", far, far.mid(12, 0), 15, 1);
      Edges.shares("of 27, twelve DAYS, half", far, far.mid(12, 6), 21, 1);
      StuckDoor full = Edges.full();
      long before = full.digest();
      Edges.shares("DAYS that can't be DEEDS any more", full, full.mid(12, 1), 0, 1);
      Edges.is("aside", full.digest(), before);
    });
    Edges.promise(36, "BAD; STATE: no SAYINGS.", () -> {
      for (int n : NO_TWELFTHS) {
        Edges.bad(n + " DAYS", d -> d.mid(n, 0));
        Edges.bad(n + " of 12", d -> d.mid(0, n));
        Edges.bad("both", d -> d.mid(n, n));
      }
      Edges.refused("no SAYINGS", Edges::bare, STATE, d -> d.mid(0, 0));
      Edges.refused("no SAYINGS", Edges::bare, STATE, d -> d.mid(12, 12));
    });
  }

  private static void odds() {
    Edges.promise(37, "Chances that one can say a SAYING then and not be OVER: 1.", () -> {
      StuckDoor d = Edges.of("f97s50s40s20s90s80");
      d.say(0, 0);
      Edges.shares("as much as one BEARS", d, d.odds(0, 1, 0, 0), 1, 1);
      Edges.shares("as much as one BEARS", d, d.odds(1, 2, 12, 12), 1, 1);
      Edges.shares("1 more", d, d.odds(0, 0, 0, 0), 0, 1);
      Edges.shares("1 more, behind a DAY", d, d.odds(0, 0, 1, 0), 1, 1);
      Edges.shares("1 more, never eased", d, d.odds(0, 0, 12, 12), 0, 1);
      Edges.shares("1 more, a DAY", d, d.odds(0, 0, 1, 5), 7, 12);
      Edges.shares("one of two DAYS", d, d.odds(0, 0, 2, 6), 3, 4);
      Edges.shares("one of twelve DAYS", d, d.odds(0, 0, 12, 6), 4095, 4096);
      Edges.shares("all of STRAIN, 4 DAYS", d, d.odds(0, 3, 4, 0), 0, 1);
      Edges.shares("all of STRAIN, 5 DAYS", d, d.odds(0, 3, 5, 0), 1, 1);
      Edges.shares("all of STRAIN, 5 DAYS, half", d, d.odds(0, 3, 5, 6), 1, 32);
      Edges.shares("more than one BEARS", d, d.odds(1, 4, 12, 0), 0, 1);
      Edges.is("asked() is not its own", d.asked(), 0);
      StuckDoor full = Edges.full();
      long before = full.digest();
      Edges.shares("DAYS that can't be DEEDS any more", full, full.odds(0, 0, 12, 1), 1, 1);
      Edges.is("aside", full.digest(), before);
    });
    Edges.promise(37, "BAD; STATE: one is OVER, or no SAYINGS.", () -> {
      for (int x : NO_PEOPLE) Edges.bad("one " + x, d -> d.odds(x, 0, 0, 0));
      for (int i : NO_SAYINGS) Edges.bad("SAYING " + i, d -> d.odds(0, i, 0, 0));
      for (int n : NO_TWELFTHS) {
        Edges.bad(n + " DAYS", d -> d.odds(0, 0, n, 0));
        Edges.bad(n + " of 12", d -> d.odds(0, 0, 0, n));
      }
      Edges.refused("nobody there", Edges::bare, BAD, d -> d.odds(0, 0, 0, 0));
      Edges.refused("one is OVER", Edges::over, STATE, d -> d.odds(0, 0, 0, 0));
      Edges.refused("one is OVER", Edges::overFull, STATE, d -> d.odds(3, 5, 12, 12));
    });
  }

  private static void lots() {
    Edges.promise(38, "n (1 .. 20) DEEDS truly by LOTS of a seed: for each a number: it by 8, cut, modulo 4: 0 a DAY, else one of "
      + "PEOPLE, it by 64, cut, modulo how many there are, says a SAYING, it modulo how many there are, if nobody is OVER and "
      + "that one is not OVER by it, else it is a DAY: STRAIN then.", () -> {
        // 48271: by 8 modulo 4 it is 1; by 64 it is 754, modulo 4 2; modulo 6 it is 1
        StuckDoor d = Edges.of(Edges.ALL);
        StuckDoor twin = Edges.of(Edges.ALL);
        Edges.is("one", d.lots(1, 1), 2);
        twin.say(2, 1);
        Edges.same("2 says 1", d, twin);
        // 48271 times 2147483646 comes to 2147435376: by 8 modulo 4 it is 2; by 64 modulo 4 1; modulo 6 0
        StuckDoor last = Edges.of("f9399s31h22g74j10w41p16");
        StuckDoor lastTwin = Edges.of("f9399s31h22g74j10w41p16");
        Edges.is("as much as one BEARS", last.lots(1, 2147483646), 3);
        lastTwin.say(1, 0);
        Edges.same("1 says 0", last, lastTwin);
        StuckDoor spared = Edges.of("f9299s31h22g74j10w41p16");
        Edges.is("1 more: a DAY", spared.lots(1, 2147483646), 0);
        Edges.is("1 more: a DAY", spared.count(2), 1);
        Edges.is("twenty", spared.lots(20, 5) == spared.count(4) ? spared.count(3) : -1, 21);
        StuckDoor over = Edges.over();
        Edges.is("one is OVER: DAYS", over.lots(6, 1), 1);
        Edges.is("one is OVER: DAYS", over.count(2), 7);
        StuckDoor undone = Edges.rich();
        undone.lots(20, 99);
        Edges.is("DEEDS truly", undone.undo(4), 20);
        Edges.same("DEEDS truly", undone, Edges.rich());
      });
    Edges.promise(38, "BAD; STATE: no SAYINGS; FULL: with n more there would be more than 40 DEEDS. (FULL last.)", () -> {
      for (int n : new int[] {MIN, -1, 0, 21, MAX}) Edges.bad("n " + n, d -> d.lots(n, 1));
      for (int seed : new int[] {MIN, -1, 0, MAX}) Edges.bad("seed " + seed, d -> d.lots(1, seed));
      Edges.refused("no SAYINGS", Edges::bare, STATE, d -> d.lots(20, 1));
      for (int n = 1; n <= 20; n++) {
        final int many = n;
        Supplier<StuckDoor> fits = () -> { StuckDoor d = Edges.full(); d.undo(40 - many); return d; };
        Supplier<StuckDoor> tight = () -> { StuckDoor d = Edges.full(); d.undo(41 - many); return d; };
        Edges.is("40 then", fits.get().lots(n, 7) >= 0 ? 1 : 0, 1);
        Edges.refused("41 then", tight, FULL, d -> d.lots(many, 7));
      }
      Edges.refused("40 ahead", Edges::full, FULL, d -> d.lots(1, 1));
      Edges.refused("40 ahead, one is OVER", Edges::overFull, FULL, d -> d.lots(20, MAX - 1));
    });
  }

  private static void asked() {
    Edges.promise(39, "What the latest lay(), at(), mean(), saying(), talk(), rows(), next() that was not refused told", () -> {
      StuckDoor d = Edges.rich();
      Edges.is("at()", d.asked(), 1421);
      d.lay(0, 1, 5);
      Edges.is("lay()", d.asked(), -8);
      d.at(0, 2);
      Edges.is("at()", d.asked(), 9);
      d.mean(0);
      Edges.is("mean()", d.asked(), 7);
      d.saying(4, 1);
      Edges.is("saying()", d.asked(), 4);
      d.talk(3);
      Edges.is("talk()", d.asked(), 7);
      d.rows(0, 0);
      Edges.is("rows()", d.asked(), 3);
      d.next(3);
      Edges.is("next()", d.asked(), 1);
      Edges.is("asked() again", d.asked(), 1);
      for (Supplier<StuckDoor> maker : Edges.states()) {
        Edges.bad("lay() refused", e -> e.lay(6, 0, 0));
        Edges.finds("at() refused", maker, BEYOND, e -> e.at(0, 3));
        Edges.finds("mean() refused", maker, NOUGHT, e -> e.mean(1));
        Edges.refused("saying() refused", maker, BAD, e -> e.saying(0, 5));
      }
      Edges.finds("talk() refused", Edges::rich, SIZE, e -> e.talk(0));
      Edges.refused("rows() refused", Edges::rich, BAD, e -> e.rows(0, 6));
      Edges.finds("next() refused", Edges::rich, SIZE, e -> e.next(4));
    });
    Edges.promise(39, "0 before.", () -> {
      Edges.is("of a new one", Edges.fresh().asked(), 0);
      StuckDoor d = Edges.fresh();
      d.at(0, 0);
      d.row(0, 1);
      Edges.is("refused ones alone", d.asked(), 0);
      StuckDoor others = Edges.of("f5s57s40");
      others.say(0, 1);
      others.day();
      others.settle(0, 0);
      others.never(1);
      others.mid(3, 3);
      others.odds(0, 0, 1, 1);
      others.count(4);
      others.put(0, 0, 5);
      others.copy(0, 0, 0, 1, 1);
      others.digest();
      Edges.is("others tell nothing by it", others.asked(), 0);
    });
  }

  private static void upperAndLower() {
    Edges.promise(40, "The upper number that was told last", () -> {
      StuckDoor d = Edges.rich();
      Edges.is("mid()", d.upper(), 9);
      d.rows(0, 1);
      Edges.is("rows()", d.upper() > 1 ? d.lower() : 0, 1);
      d.odds(0, 0, 1, 12);
      Edges.is("odds()", d.upper(), 1);
      d.at(0, 0);
      d.settle(0, 0);
      d.least(0, 2);
      Edges.is("others tell nothing by it", d.upper(), 1);
      Edges.refused("mid() refused", Edges::rich, BAD, e -> e.mid(13, 0));
      Edges.refused("odds() refused", Edges::over, STATE, e -> e.odds(0, 0, 0, 0));
      Edges.refused("rows() refused", Edges::over, STATE, e -> e.rows(0, 0));
    });
    Edges.promise(40, "0 before.", () -> {
      Edges.is("of a new one", Edges.fresh().upper(), 0);
      StuckDoor d = Edges.fresh();
      d.mid(0, 0);
      Edges.is("refused ones alone", d.upper(), 0);
    });
    Edges.promise(41, "Its lower number", () -> {
      StuckDoor d = Edges.rich();
      Edges.is("mid()", d.lower(), 4);
      d.rows(0, 1);
      Edges.is("rows()", d.lower(), 1);
      d.mid(1, 6);
      Edges.is("mid()", d.lower(), 2);
      d.mid(0, 6);
      Edges.is("a whole number", d.lower(), 1);
      StuckDoor most = Edges.of("f9s10");
      most.say(0, 0);
      // 11 times 11 .. by 12 times 12 ..: twelve times
      Edges.shares("the largest", most, most.mid(12, 11), 3138428376721L, 8916100448256L);
    });
    Edges.promise(41, "1 before.", () -> {
      Edges.is("of a new one", Edges.fresh().lower(), 1);
      StuckDoor d = Edges.fresh();
      d.mid(0, 0);
      Edges.is("refused ones alone", d.lower(), 1);
    });
  }

  private static void counts(StuckDoor d, int... due) {
    for (int what = 0; what <= 10; what++) Edges.is("count(" + what + ")", d.count(what), due[what]);
  }

  private static void count() {
    Edges.promise(42, "0 SAYINGS, 1 PEOPLE, 2 DAYS gone, 3 DEEDS, 4 STRAIN, 5 TOPICS settled (bits), 6 who is OVER (NONE), "
      + "7 HINTS (JOKES, SPEECHES, too), 8 ROWS, 9 TEXTS that are there, 10 kept FAMILIES.", () -> {
        counts(Edges.fresh(), 0, 0, 0, 0, 0, 0, NONE, 0, 0, 0, 0);
        counts(Edges.bare(), 0, 0, 0, 0, 0, 0, NONE, 0, 5, 3, 0);
        counts(Edges.rich(), 6, 4, 1, 4, 4, 3, NONE, 3, 5, 3, 2);
        counts(Edges.over(), 6, 4, 1, 5, 7, 3, 2, 3, 5, 3, 2);
        counts(Edges.full(), 6, 4, 37, 40, 0, 3, NONE, 3, 5, 3, 2);
        StuckDoor d = Edges.of("f09h10h10j10p17p10h10");
        for (int r = 0; r < 6; r++) d.row(r, 0);
        for (int t = 0; t < 4; t++) d.text(t, 0);
        for (int k = 0; k < 3; k++) d.keep(k);
        d.say(0, 3);
        counts(d, 6, 2, 0, 1, 2, 7, 0, 6, 6, 4, 3);
        StuckDoor e = Edges.of("f9s00g00w00");
        for (int n = 0; n < 40; n++) e.day();
        counts(e, 3, 1, 40, 40, 0, 0, NONE, 0, 0, 1, 0);
      });
    Edges.promise(42, "BAD.", () -> {
      for (int what : new int[] {MIN, -1, 11, MAX}) Edges.bad("count(" + what + ")", d -> d.count(what));
    });
  }

  private static void finding() {
    Edges.promise(43, "The latest FINDING (0 before any).", () -> {
      StuckDoor d = Edges.fresh();
      Edges.is("before any", d.finding(), 0);
      d.row(6, 0);
      d.day();
      d.mid(0, 0);
      Edges.is("BAD, STATE are none", d.finding(), 0);
      d.row(0, -1);
      Edges.is("SIZE", d.finding(), 5);
      d.row(0, 0);
      Edges.is("what is taken is none", d.finding(), 5);
      d.mean(0);
      Edges.is("NOUGHT", d.finding(), 4);
      d.at(0, 0);
      Edges.is("BEYOND", d.finding(), 2);
      d.at(1, 0);
      Edges.is("NOTHING", d.finding(), 1);
      d.row(0, 1);
      d.never(0);
      Edges.is("UNLIKE", d.finding(), 3);
      d.findings(1);
      d.findings(0);
      Edges.is("UNLIKE still", d.finding(), 3);
      StuckDoor anew = Edges.rich();
      anew.family(0);
      Edges.is("family() keeps it", anew.finding(), UNLIKE);
    });
  }

  private static void findings() {
    Edges.promise(44, "How often a FINDING (1 .. 5) was answered.", () -> {
      StuckDoor d = Edges.fresh();
      for (int f = 1; f <= 5; f++) Edges.is("before any", d.findings(f), 0);
      for (int n = 1; n <= 7; n++) {
        d.tear(0);
        Edges.is("NOTHING", d.findings(NOTHING), n);
      }
      for (int n = 0; n < 2; n++) d.row(0, -1);
      d.row(0, 1);
      for (int n = 0; n < 3; n++) d.at(0, 1);
      for (int n = 0; n < 4; n++) d.never(0);
      d.row(0, 0);
      for (int n = 0; n < 5; n++) d.mean(0);
      d.row(0, 41);
      d.day();
      int[] due = {7, 3, 4, 5, 2};
      for (int f = 1; f <= 5; f++) Edges.is("findings(" + f + ")", d.findings(f), due[f - 1]);
    });
    Edges.promise(44, "BAD.", () -> {
      for (int f : new int[] {MIN, -1, 0, 6, MAX}) Edges.bad("findings(" + f + ")", d -> d.findings(f));
    });
  }

  private static long digestOf(int... values) {
    long h = 17;
    for (int v : values) h = 31 * h + v;
    return h;
  }

  private static void digest() {
    Edges.promise(45, "h = 17; then h = 31 h + v for each v: count() 0 to 10; what each of PEOPLE BEARS; of each SAYING saying() "
      + "0 to 4; stuck(); of each kept FAMILY how many DEEDS (-1: missing); of each ROW its size (-1: missing) and places, "
      + "of each TEXT likewise.", () -> {
        Edges.is("of a new one", Edges.fresh().digest(),
          digestOf(0, 0, 0, 0, 0, 0, -9, 0, 0, 0, 0, 0, -1, -1, -1, -1, -1, -1, -1, -1, -1, -1, -1, -1, -1));
        StuckDoor d = Edges.fresh();
        d.row(0, 0);
        Edges.fill(d, 5, MAX, MIN);
        d.text(0, 0);
        d.text(3, 2);
        d.put(3, 1, 255);
        Edges.is("without a FAMILY", d.digest(), digestOf(0, 0, 0, 0, 0, 0, -9, 0, 2, 2, 0, 0, -1, -1, -1,
          0, -1, -1, -1, -1, 2, MAX, MIN, 0, -1, -1, 2, 32, -1));
        Edges.write(d, 0, "f90j51s90d11");
        d.family(0);
        d.keep(0);
        d.say(0, 0);
        d.day();
        d.keep(2);
        d.say(1, 1);
        Edges.is("with a FAMILY", d.digest(), digestOf(2, 2, 1, 3, 11, 1, 1, 1, 2, 2, 2, 9, 0, 3, 5, 4, 1, 1, 0, 9, 9, 0, 1, 2048,
          0, -1, 2, 0, -1, -1, -1, -1, 2, MAX, MIN, 12, 'f', '9', '0', 'j', '5', '1', 's', '9', '0', 'd', '1', '1',
          -1, -1, 2, 32, -1));
        Edges.tells("it changes nothing", Edges::fresh, 0, e -> e.digest() * 0);
        Edges.tells("it changes nothing", Edges::overFull, 0, e -> e.digest() * 0);
      });
  }
}
