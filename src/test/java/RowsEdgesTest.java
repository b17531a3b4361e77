import java.util.Arrays;
import java.util.function.Supplier;

/** The edges of promises 1 to 14 (rows, texts, families): a test for each sentence. */
public final class RowsEdgesTest {
  private static final int BAD = Edges.BAD, FINDING = Edges.FINDING, STATE = Edges.STATE, NONE = Edges.NONE;
  private static final int NOTHING = Edges.NOTHING, BEYOND = Edges.BEYOND, UNLIKE = Edges.UNLIKE, NOUGHT = Edges.NOUGHT,
    SIZE = Edges.SIZE, MIN = Edges.MIN, MAX = Edges.MAX;
  /** Numbers that no ROW, TEXT and place has, on either side. */
  private static final int[] NO_ROWS = {MIN, -1, 6, MAX}, NO_TEXTS = {MIN, -1, 4, MAX};

  public static void main(String[] args) {
    newObject(); row(); lay(); at(); tear(); copy(); copyRefused(); mean(); text(); put(); fault(); family(); saying();
    mark(); markRefused(); bears();
    Edges.end(Edges.promises(1, 14));
  }

  private static void newObject() {
    Edges.promise(1, "No ROWS, TEXTS, PEOPLE, SAYINGS, STUCK ROOMS.", () -> {
      StuckDoor d = Edges.fresh();
      Edges.is("ROWS", d.count(8), 0);
      Edges.is("TEXTS", d.count(9), 0);
      Edges.is("PEOPLE", d.count(1), 0);
      Edges.is("SAYINGS", d.count(0), 0);
      Edges.is("STUCK ROOMS", d.stuck(), 0);
      Edges.is("kept FAMILIES", d.count(10), 0);
      Edges.is("DEEDS", d.count(3), 0);
      for (int r = 0; r <= 5; r++) Edges.is("ROW " + r, d.tear(r), FINDING);
      for (int t = 0; t <= 3; t++) Edges.is("TEXT " + t, d.fault(t), FINDING);
      Edges.is("all missing", d.findings(NOTHING), 10);
      Edges.is("another object has its own", Edges.rich().count(8) + Edges.fresh().count(8), 5);
    });
  }

  private static void row() {
    Edges.promise(2, "A ROW is there with n ints 0: n.", () -> {
      for (int n : new int[] {0, 1, 39, 40}) {
        for (int r : new int[] {0, 5}) {
          StuckDoor d = Edges.fresh();
          Edges.is("row(" + r + ", " + n + ")", d.row(r, n), n);
          Edges.rowIs("ints 0", d, r, new int[n]);
          Edges.is("no other one is there", d.count(8), 1);
        }
      }
      StuckDoor d = Edges.fill(Edges.fresh(), 2, 5, 6, 7);
      Edges.is("anew", d.row(2, 3), 3);
      Edges.rowIs("anew", d, 2, 0, 0, 0);
      Edges.fill(d, 2, 5, 6, 7);
      d.row(2, 1);
      Edges.is("longer again", d.row(2, 40), 40);
      Edges.rowIs("nothing is left of what was there", d, 2, new int[40]);
      Edges.fill(d, 2, 5, 6, 7);
      d.tear(2);
      d.row(2, 3);
      Edges.rowIs("behind tear()", d, 2, 0, 0, 0);
    });
    Edges.promise(2, "BAD: also n above 40", () -> {
      Edges.is("40", Edges.rich().row(5, 40), 40);
      Edges.bad("41 for a missing one", d -> d.row(5, 41));
      Edges.bad("41 for one that is there", d -> d.row(2, 41));
      Edges.bad("the largest", d -> d.row(2, MAX));
      for (int r : NO_ROWS) Edges.bad("ROW " + r, d -> d.row(r, 1));
    });
    Edges.promise(2, "SIZE: below 0.", () -> {
      Edges.is("0", Edges.rich().row(2, 0), 0);
      for (int n : new int[] {-1, -2, -41, MIN}) {
        Edges.findsAlways(n + " for a missing one", SIZE, d -> d.row(5, n));
        Edges.findsAlways(n + " for one that is there", SIZE, d -> d.row(2, n));
        for (int r : NO_ROWS) Edges.bad("BAD ahead of SIZE", d -> d.row(r, n));
      }
    });
  }

  private static void lay() {
    Edges.promise(3, "Place i of a ROW is v: what it was, told by asked(): 1.", () -> {
      StuckDoor d = Edges.bare();
      int[] due = new int[40];
      for (int i = 0; i < 40; i += 3) due[i] = i * i - 100;
      Edges.asks("the first place", d, -100, d.lay(2, 0, MAX));
      Edges.asks("what it was then", d, MAX, d.lay(2, 0, MIN));
      Edges.asks("the last place", d, 1421, d.lay(2, 39, -1));
      due[0] = MIN;
      due[39] = -1;
      Edges.rowIs("the others stay", d, 2, due);
      Edges.rowIs("other ROWS stay", d, 0, 7, -8, 9);
      Edges.asks("0 is told too", d, 0, d.lay(4, 21, 3));
      Edges.asks("a place of 0", d, 3, d.lay(4, 21, 0));
    });
    Edges.promise(3, "BAD; NOTHING; BEYOND.", () -> {
      for (int r : NO_ROWS) {
        for (int i : new int[] {-1, 0, 40}) Edges.bad("BAD ahead of BEYOND", d -> d.lay(r, i, 3));
      }
      for (int i : new int[] {MIN, -1, 0, 40, MAX}) {
        Edges.findsAlways("NOTHING ahead of BEYOND", NOTHING, d -> d.lay(5, i, 3));
        Edges.findsAlways("a ROW of none", BEYOND, d -> d.lay(1, i, 3));
      }
      Edges.is("place 2 of three", Edges.rich().lay(0, 2, 3), 1);
      Edges.is("place 0 of three", Edges.rich().lay(0, 0, 3), 1);
      for (int i : new int[] {MIN, -1, 3, MAX}) Edges.findsAlways("of three", BEYOND, d -> d.lay(0, i, 3));
      for (int i : new int[] {-1, 40}) Edges.findsAlways("of forty", BEYOND, d -> d.lay(2, i, 3));
    });
  }

  private static void at() {
    Edges.promise(4, "Place i of a ROW, told by asked(): 1.", () -> {
      StuckDoor d = Edges.bare();
      Edges.asks("the first place", d, 7, d.at(0, 0));
      Edges.asks("below 0", d, -8, d.at(0, 1));
      Edges.asks("the last place", d, 9, d.at(0, 2));
      Edges.asks("the last one of forty", d, 1421, d.at(2, 39));
      Edges.asks("0 is told too", d, 0, d.at(2, 38));
    });
    Edges.promise(4, "BAD; NOTHING; BEYOND.", () -> {
      for (int r : NO_ROWS) {
        for (int i : new int[] {-1, 0, 40}) Edges.bad("BAD ahead of BEYOND", d -> d.at(r, i));
      }
      for (int i : new int[] {MIN, -1, 0, 40, MAX}) {
        Edges.findsAlways("NOTHING ahead of BEYOND", NOTHING, d -> d.at(5, i));
        Edges.findsAlways("a ROW of none", BEYOND, d -> d.at(1, i));
      }
      for (int i : new int[] {MIN, -1, 3, MAX}) Edges.findsAlways("of three", BEYOND, d -> d.at(0, i));
      for (int i : new int[] {-1, 40}) Edges.findsAlways("of forty", BEYOND, d -> d.at(2, i));
    });
  }

  private static void tear() {
    Edges.promise(5, "A ROW is missing: 1.", () -> {
      for (int r = 0; r <= 4; r++) {
        StuckDoor d = Edges.rich();
        Edges.is("tear(" + r + ")", d.tear(r), 1);
        Edges.is("it is missing", d.at(r, 0), FINDING);
        Edges.is("it is missing", d.finding(), NOTHING);
        Edges.is("one fewer", d.count(8), 4);
        Edges.is("asked() stays", d.asked(), 1421);
      }
      StuckDoor d = Edges.fresh();
      d.row(5, 40);
      Edges.is("the last ROW", d.tear(5), 1);
      Edges.same("as if it had never been", d, Edges.fresh());
    });
    Edges.promise(5, "BAD; NOTHING.", () -> {
      for (int r : NO_ROWS) Edges.bad("tear(" + r + ")", d -> d.tear(r));
      Edges.findsAlways("missing", NOTHING, d -> d.tear(5));
      StuckDoor d = Edges.rich();
      d.tear(0);
      Edges.is("torn already", d.tear(0), FINDING);
      Edges.is("torn already", d.finding(), NOTHING);
    });
  }

  private static void copy() {
    Edges.promise(6, "n places of a ROW, from one on, come to those of another one (perhaps itself) from one on, "
      + "as if taken ahead: 1.", () -> {
        StuckDoor d = Edges.fill(Edges.fresh(), 0, 1, 2, 3, 4, 5);
        Edges.fill(d, 5, 10, 20, 30);
        Edges.is("the last two", d.copy(0, 3, 5, 0, 2), 1);
        Edges.rowIs("to", d, 5, 4, 5, 30);
        Edges.rowIs("from", d, 0, 1, 2, 3, 4, 5);
        Edges.is("to the last place", d.copy(0, 0, 5, 2, 1), 1);
        Edges.rowIs("to", d, 5, 4, 5, 1);
        Edges.is("behind itself", d.copy(0, 0, 0, 1, 4), 1);
        Edges.rowIs("as if taken ahead", d, 0, 1, 1, 2, 3, 4);
        Edges.is("ahead of itself", d.copy(0, 1, 0, 0, 4), 1);
        Edges.rowIs("as if taken ahead", d, 0, 1, 2, 3, 4, 4);
        Edges.is("onto itself", d.copy(0, 0, 0, 0, 5), 1);
        Edges.rowIs("onto itself", d, 0, 1, 2, 3, 4, 4);
        StuckDoor full = Edges.bare();
        full.row(5, 40);
        Edges.is("all forty", full.copy(2, 0, 5, 0, 40), 1);
        int[] due = new int[40];
        for (int i = 0; i < 40; i += 3) due[i] = i * i - 100;
        Edges.rowIs("all forty", full, 5, due);
      });
    Edges.promise(6, "n places of a ROW", () -> {
      // none are there even at a ROW's end, and in a ROW of none
      Edges.tells("none", Edges::rich, 1, d -> d.copy(0, 0, 3, 0, 0));
      Edges.tells("none at the end", Edges::rich, 1, d -> d.copy(0, 3, 3, 4, 0));
      Edges.tells("none of none", Edges::rich, 1, d -> d.copy(1, 0, 1, 0, 0));
      Edges.tells("none at the end of forty", Edges::rich, 1, d -> d.copy(2, 40, 1, 0, 0));
    });
  }

  private static void copyRefused() {
    Edges.promise(6, "BAD; SIZE: n below 0", () -> {
      for (int r : NO_ROWS) {
        for (int n : new int[] {-1, 0, 1, 41}) {
          Edges.bad("from ROW " + r, d -> d.copy(r, 0, 0, 0, n));
          Edges.bad("to ROW " + r, d -> d.copy(0, 0, r, 0, n));
          Edges.bad("ahead of NOTHING", d -> d.copy(5, 0, r, 0, n));
          Edges.bad("ahead of NOTHING", d -> d.copy(r, 0, 5, 0, n));
        }
      }
      for (int n : new int[] {-1, -2, MIN}) {
        Edges.findsAlways("below 0", SIZE, d -> d.copy(0, 0, 3, 0, n));
        Edges.findsAlways("ahead of NOTHING", SIZE, d -> d.copy(5, 0, 0, 0, n));
        Edges.findsAlways("ahead of NOTHING", SIZE, d -> d.copy(0, 0, 5, 0, n));
        Edges.findsAlways("ahead of BEYOND", SIZE, d -> d.copy(0, 4, 3, -1, n));
      }
    });
    Edges.promise(6, "NOTHING: either", () -> {
      for (int i : new int[] {-1, 0, 41}) {
        Edges.findsAlways("from a missing one", NOTHING, d -> d.copy(5, i, 0, i, 1));
        Edges.findsAlways("to a missing one", NOTHING, d -> d.copy(0, i, 5, i, 1));
        Edges.findsAlways("both", NOTHING, d -> d.copy(5, i, 5, i, 0));
      }
    });
    Edges.promise(6, "BEYOND: not so many there.", () -> {
      Edges.is("as many as there are", Edges.rich().copy(0, 0, 3, 1, 3), 1);
      Edges.findsAlways("1 more from", BEYOND, d -> d.copy(0, 0, 3, 0, 4));
      Edges.findsAlways("1 more from", BEYOND, d -> d.copy(0, 1, 3, 0, 3));
      Edges.findsAlways("1 more to", BEYOND, d -> d.copy(3, 0, 0, 0, 4));
      Edges.findsAlways("1 more to", BEYOND, d -> d.copy(0, 0, 3, 2, 3));
      Edges.findsAlways("from -1", BEYOND, d -> d.copy(0, -1, 3, 0, 1));
      Edges.findsAlways("to -1", BEYOND, d -> d.copy(0, 0, 3, -1, 1));
      Edges.findsAlways("none from -1", BEYOND, d -> d.copy(0, -1, 3, 0, 0));
      Edges.findsAlways("none to -1", BEYOND, d -> d.copy(0, 0, 3, -1, 0));
      Edges.findsAlways("none behind the end", BEYOND, d -> d.copy(0, 4, 3, 0, 0));
      Edges.findsAlways("none to behind the end", BEYOND, d -> d.copy(0, 0, 3, 5, 0));
      Edges.findsAlways("one at the end", BEYOND, d -> d.copy(0, 3, 3, 0, 1));
      Edges.findsAlways("from a ROW of none", BEYOND, d -> d.copy(1, 0, 3, 0, 1));
      Edges.findsAlways("41", BEYOND, d -> d.copy(2, 0, 2, 0, 41));
      // sums of these would be below 0
      Edges.findsAlways("the most", BEYOND, d -> d.copy(0, 1, 3, 1, MAX));
      Edges.findsAlways("from the last int", BEYOND, d -> d.copy(0, MAX, 3, 0, 1));
      Edges.findsAlways("to the last int", BEYOND, d -> d.copy(0, 0, 3, MAX, 1));
      Edges.findsAlways("from the first int", BEYOND, d -> d.copy(0, MIN, 3, 0, 1));
      Edges.findsAlways("to the first int", BEYOND, d -> d.copy(0, 0, 3, MIN, MAX));
      Edges.findsAlways("all of these", BEYOND, d -> d.copy(0, MAX, 3, MAX, MAX));
    });
  }

  private static void mean() {
    Edges.promise(7, "The mean of a ROW's ints, cut, told by asked(): 1.", () -> {
      StuckDoor d = Edges.fresh();
      int[][] due = {{5, 5}, {-5, -5}, {1, 1, 2}, {2, 1, 2, 4}, {0, 1, 0, 1}, {-1, -1, -2}, {0, -1, 0}, {0, 0, 0, 2},
        {MAX, MAX}, {MIN, MIN}, {MAX, MAX, MAX, MAX}, {MIN, MIN, MIN, MIN}, {0, MAX, MIN}, {MAX - 1, MAX, MAX - 1}};
      for (int[] one : due) {
        int[] ints = Arrays.copyOfRange(one, 1, one.length);
        Edges.fill(d, 4, ints);
        Edges.asks("mean of " + Arrays.toString(ints), d, one[0], d.mean(4));
      }
      d.row(4, 40);
      d.lay(4, 39, 79);
      Edges.asks("of forty", d, 1, d.mean(4));
      d.lay(4, 0, 1);
      Edges.asks("of forty", d, 2, d.mean(4));
      for (int i = 0; i < 40; i++) d.lay(4, i, MIN);
      Edges.asks("of forty of the least", d, MIN, d.mean(4));
    });
    Edges.promise(7, "BAD; NOTHING; NOUGHT.", () -> {
      for (int r : NO_ROWS) Edges.bad("mean(" + r + ")", d -> d.mean(r));
      Edges.findsAlways("missing", NOTHING, d -> d.mean(5));
      Edges.findsAlways("of none", NOUGHT, d -> d.mean(1));
      StuckDoor d = Edges.rich();
      d.row(5, 1);
      Edges.asks("of one", d, 0, d.mean(5));
    });
  }

  private static void text() {
    Edges.promise(8, "A TEXT is there with n blanks: n.", () -> {
      for (int n : new int[] {0, 1, 59, 60}) {
        for (int t : new int[] {0, 3}) {
          StuckDoor d = Edges.fresh();
          Edges.is("text(" + t + ", " + n + ")", d.text(t, n), n);
          Edges.is("no other one is there", d.count(9), 1);
          for (int i = 0; i < n; i++) Edges.is("a blank", d.put(t, i, 120), 1032);
          Edges.is("no byte more", d.put(t, n, 120), FINDING);
          Edges.is("anew", d.text(t, n), n);
          for (int i = 0; i < n; i++) Edges.is("a blank anew", d.put(t, i, 120), 1032);
          d.text(t, 0);
          d.text(t, 60);
          Edges.is("nothing is left of what was there", d.put(t, 0, 32), 1032);
        }
      }
    });
    Edges.promise(8, "BAD: also n above 60", () -> {
      Edges.is("60", Edges.rich().text(3, 60), 60);
      for (int n : new int[] {61, MAX}) {
        Edges.bad(n + " for a missing one", d -> d.text(3, n));
        Edges.bad(n + " for one that is there", d -> d.text(0, n));
      }
      for (int t : NO_TEXTS) Edges.bad("TEXT " + t, d -> d.text(t, 1));
    });
    Edges.promise(8, "SIZE: below 0.", () -> {
      Edges.is("0", Edges.rich().text(0, 0), 0);
      for (int n : new int[] {-1, -61, MIN}) {
        Edges.findsAlways(n + " for a missing one", SIZE, d -> d.text(3, n));
        Edges.findsAlways(n + " for one that is there", SIZE, d -> d.text(0, n));
        for (int t : NO_TEXTS) Edges.bad("BAD ahead of SIZE", d -> d.text(t, n));
      }
    });
  }

  private static void put() {
    Edges.promise(9, "Byte i of a TEXT is v, cut to a byte: what it was, and 1000 more.", () -> {
      StuckDoor d = Edges.fresh();
      d.text(3, 60);
      Edges.is("the first byte", d.put(3, 0, 7), 1032);
      Edges.is("the last byte", d.put(3, 59, 8), 1032);
      Edges.is("the first byte was", d.put(3, 0, 0), 1007);
      Edges.is("the last byte was", d.put(3, 59, 0), 1008);
      int[][] cut = {{0, 0}, {127, 127}, {128, -128}, {255, -1}, {256, 0}, {257, 1}, {383, 127}, {384, -128}, {-1, -1},
        {-128, -128}, {-129, 127}, {-256, 0}, {MAX, -1}, {MIN, 0}, {MAX - 127, -128}, {MIN + 127, 127}};
      for (int[] one : cut) {
        d.put(3, 30, one[0]);
        Edges.is("what " + one[0] + " was", d.put(3, 30, 32), 1000 + one[1]);
      }
      Edges.is("the others stay", d.put(3, 29, 32), 1032);
      Edges.is("the others stay", d.put(3, 31, 32), 1032);
      d.put(3, 30, 384);
      StuckDoor twin = Edges.fresh();
      twin.text(3, 60);
      twin.put(3, 0, 0);
      twin.put(3, 59, 256);
      twin.put(3, 30, -128);
      Edges.same("the same bytes", d, twin);
    });
    Edges.promise(9, "BAD; NOTHING; BEYOND.", () -> {
      for (int t : NO_TEXTS) {
        for (int i : new int[] {-1, 0, 60}) Edges.bad("BAD ahead of BEYOND", d -> d.put(t, i, 65));
      }
      for (int i : new int[] {MIN, -1, 0, 60, MAX}) {
        Edges.findsAlways("NOTHING ahead of BEYOND", NOTHING, d -> d.put(3, i, 65));
        Edges.findsAlways("a TEXT of none", BEYOND, d -> d.put(2, i, 65));
      }
      Edges.is("the last one of two", Edges.rich().put(1, 1, 65), 1049);
      for (int i : new int[] {MIN, -1, 2, MAX}) Edges.findsAlways("of two", BEYOND, d -> d.put(1, i, 65));
    });
  }

  private static void fault() {
    Edges.promise(10, "A FAULT of a TEXT", () -> {
      for (int t = 0; t <= 3; t++) {
        StuckDoor d = Edges.rich();
        Edges.write(d, t, "f1x");
        long before = d.digest();
        Edges.is("fault(" + t + ")", d.fault(t), 2);
        Edges.is("nothing is changed", d.digest(), before);
      }
      Edges.tells("place 0", () -> { StuckDoor d = Edges.rich(); Edges.write(d, 3, "x"); return d; }, 0, d -> d.fault(3));
      Edges.tells("of none", Edges::rich, 0, d -> d.fault(2));
      Edges.tells("of a FAULT", Edges::over, 2, d -> d.fault(1));
      StuckDoor d = Edges.fresh();
      d.text(0, 60);
      Edges.is("the largest", d.fault(0), 60);
    });
    Edges.promise(10, "NONE: there is none.", () -> {
      for (Supplier<StuckDoor> maker : Edges.states()) Edges.tells("none", maker, NONE, d -> d.fault(0));
      Edges.fault("f1s11d00d01d02d03d04d05d06d07d08d09d10d11", NONE);
      Edges.fault("f1234s11s11s11s11s11s11d00d01d02d03d04d05d06d07d08d09d10d11 ", NONE);
    });
    Edges.promise(10, "BAD; NOTHING.", () -> {
      for (int t : NO_TEXTS) Edges.bad("fault(" + t + ")", d -> d.fault(t));
      Edges.findsAlways("missing", NOTHING, d -> d.fault(3));
    });
  }

  private static void family() {
    Edges.promise(11, "A FAMILY by a TEXT (anew: no STRAIN, no DEEDS; kept FAMILIES go): how many SAYINGS.", () -> {
      String one = "f3s10";
      for (int n = 1; n <= 6; n++, one += "s10") {
        StuckDoor d = Edges.over();
        Edges.write(d, 3, one);
        Edges.is("how many", d.family(3), n);
        StuckDoor twin = Edges.bare();
        Edges.write(twin, 3, one);
        twin.family(3);
        d.mid(0, 0);
        twin.mid(0, 0);
        Edges.same("as if it were the first one", d, twin);
      }
      StuckDoor d = Edges.overFull();
      Edges.is("the same anew", d.family(0), 6);
      int[] due = {6, 4, 0, 0, 0, 0, NONE, 3, 5, 3, 0};
      for (int what = 0; what <= 10; what++) Edges.is("count(" + what + ")", d.count(what), due[what]);
      for (int i = 0; i < 6; i++) Edges.asks("never said", d, 0, d.saying(i, 4));
      for (int k = 0; k < 3; k++) Edges.is("kept ones are gone", d.on(k), FINDING);
      Edges.is("kept ones are gone", d.findings(NOTHING), 4);
      d.text(0, 0);
      Edges.is("the FAMILY stays when its TEXT goes", d.count(0), 6);
      Edges.is("the FAMILY stays when its TEXT goes", d.bears(0), 9);
    });
    Edges.promise(11, "BAD; NOTHING; STATE: a FAULT. (STATE behind NOTHING.)", () -> {
      for (int t : NO_TEXTS) Edges.bad("family(" + t + ")", d -> d.family(t));
      Edges.findsAlways("missing", NOTHING, d -> d.family(3));
      for (Supplier<StuckDoor> maker : Edges.states()) {
        Edges.refused("a FAULT", maker, STATE, d -> d.family(1));
        Edges.refused("a TEXT of none", maker, STATE, d -> d.family(2));
        Edges.refused("a FAULT at the end", () -> { StuckDoor d = maker.get(); d.put(0, 30, 's'); return d; }, STATE,
          d -> d.family(0));
      }
    });
  }

  private static void saying() {
    Edges.promise(12, "Of a SAYING: 0 the KIND, 1 how NEAR was told, 2 how NEAR it comes now, 3 its TOPICS, "
      + "4 how often it was said, told by asked(): 1.", () -> {
        StuckDoor d = Edges.of("f9s97h00g51j02w36p24");
        for (int n = 0; n < 2; n++) d.say(0, 1);
        for (int n = 0; n < 3; n++) d.say(0, 3);
        int[][] due = {{0, 9, 9, 7, 0}, {1, 0, 2, 0, 2}, {2, 5, 2, 1, 0}, {3, 0, 1, 2, 3}, {4, 3, 3, 6, 0}, {5, 2, 4, 4, 0}};
        for (int i = 0; i < 6; i++) {
          for (int what = 0; what <= 4; what++) Edges.asks("saying(" + i + ", " + what + ")", d, due[i][what], d.saying(i, what));
        }
        StuckDoor over = Edges.over();
        Edges.asks("though one is OVER", over, 2, over.saying(0, 4));
        StuckDoor often = Edges.of("f9s00");
        for (int n = 0; n < 40; n++) often.say(0, 0);
        Edges.asks("forty times", often, 40, often.saying(0, 4));
      });
    Edges.promise(12, "BAD.", () -> {
      for (int i : new int[] {MIN, -1, 6, MAX}) Edges.bad("SAYING " + i, d -> d.saying(i, 0));
      for (int what : new int[] {MIN, -1, 5, MAX}) Edges.bad("what " + what, d -> d.saying(0, what));
      Edges.refused("no SAYINGS", Edges::bare, BAD, d -> d.saying(0, 0));
      StuckDoor d = Edges.of("f1s11s22");
      Edges.asks("the last of two", d, 2, d.saying(1, 1));
      Edges.is("no third", d.saying(2, 1), BAD);
    });
  }

  private static void mark() {
    Edges.promise(13, "What a SAYING that IS of a KIND tells: a HINT (JOKE, SPEECH, too) how often it was said", () -> {
      for (char letter : new char[] {'h', 'j', 'p'}) {
        StuckDoor d = Edges.of("f9" + letter + "00s00");
        for (int n = 0; n < 3; n++) {
          Edges.is(letter + " was said", d.mark(0, 1), n);
          d.say(0, 0);
          d.say(0, 1);
          d.day();
        }
      }
    });
    Edges.promise(13, "a GRACE (WILL, too) how much it spares of what is told (that less half of it, cut)", () -> {
      int[] due = {0, 1, 1, 2, 2, 3, 3, 4, 4, 5};
      for (int told = 0; told <= 9; told++) {
        Edges.is("a GRACE of " + told, Edges.of("f9g" + told + "0").mark(0, 2), due[told]);
        Edges.is("a WILL of " + told, Edges.of("f9w" + told + "0").mark(0, 2), due[told]);
      }
    });
    Edges.promise(13, "a JOKE how many more times it must be said till it comes NEAR at all (0: it does now)", () -> {
      for (int told = 0; told <= 9; told++) {
        StuckDoor d = Edges.of("f9j" + told + "0");
        for (int n = 0; n < 5 && d.count(6) == NONE; n++) {
          Edges.is("a JOKE of " + told + " said " + n, d.mark(0, 3), Math.max(0, 3 - told - n));
          d.saying(0, 2);
          Edges.is("0: it does now", d.mark(0, 3) == 0 ? 1 : 0, d.asked() > 0 ? 1 : 0);
          d.say(0, 0);
        }
      }
    });
    Edges.promise(13, "a WILL how many TOPICS are not settled", () -> {
      int[] open = {3, 2, 2, 1, 2, 1, 1, 0};
      for (int topics = 0; topics <= 7; topics++) {
        StuckDoor d = Edges.of("f9w00s0" + topics);
        Edges.is("at first", d.mark(0, 4), 3);
        d.say(0, 1);
        Edges.is("TOPICS " + topics + " are settled", d.mark(0, 4), open[topics]);
      }
    });
    Edges.promise(13, "a SPEECH how many PEOPLE over() has of it.", () -> {
      Edges.is("nobody", Edges.of("f2222p10").mark(0, 5), 0);
      Edges.is("two", Edges.of("f1424p20").mark(0, 5), 2);
      Edges.is("all", Edges.of("f1111p10").mark(0, 5), 4);
      StuckDoor d = Edges.of("f1111p10");
      d.say(2, 0);
      Edges.is("one is OVER already", d.mark(0, 5), 0);
    });
  }

  private static void markRefused() {
    Edges.promise(13, "BAD: also KIND 0", () -> {
      for (int kind : new int[] {MIN, -1, 0, 6, MAX}) {
        for (int i = 0; i < 6; i++) {
          final int saying = i;
          Edges.bad("KIND " + kind, d -> d.mark(saying, kind));
        }
      }
      for (int i : new int[] {MIN, -1, 6, MAX}) {
        for (int kind = 1; kind <= 5; kind++) {
          final int of = kind;
          Edges.bad("SAYING " + i, d -> d.mark(i, of));
        }
      }
      Edges.refused("no SAYINGS", Edges::bare, BAD, d -> d.mark(0, 1));
      Edges.tells("KIND 1", Edges::rich, 1, d -> d.mark(1, 1));
      Edges.tells("KIND 5", Edges::rich, 2, d -> d.mark(5, 5));
    });
    Edges.promise(13, "UNLIKE.", () -> {
      String fits = "00000 10000 01000 10100 01010 10001";
      for (int i = 0; i < 6; i++) {
        for (int kind = 1; kind <= 5; kind++) {
          final int saying = i;
          final int of = kind;
          boolean isOne = fits.charAt(6 * i + kind - 1) == '1';
          if (isOne) Edges.is("a FINDING", Edges.rich().mark(i, kind) == FINDING ? 1 : 0, 0);
          else Edges.finds("mark(" + i + ", " + kind + ")", Edges::rich, UNLIKE, d -> d.mark(saying, of));
        }
      }
      Edges.finds("though one is OVER", Edges::over, UNLIKE, d -> d.mark(0, 1));
    });
  }

  private static void bears() {
    Edges.promise(14, "What one of PEOPLE BEARS.", () -> {
      for (int n = 0; n <= 9; n++) Edges.is("bears(0)", Edges.of("f" + n + "s11").bears(0), n);
      int[] due = {9, 6, 4, 5};
      for (int x = 0; x < 4; x++) {
        final int one = x;
        Edges.tells("bears(" + x + ")", Edges::over, due[x], d -> d.bears(one));
      }
    });
    Edges.promise(14, "BAD.", () -> {
      for (int x : new int[] {MIN, -1, 4, MAX}) Edges.bad("bears(" + x + ")", d -> d.bears(x));
      Edges.refused("no PEOPLE", Edges::bare, BAD, d -> d.bears(0));
      StuckDoor d = Edges.of("f70s11");
      Edges.is("the last of two", d.bears(1), 0);
      Edges.is("no third", d.bears(2), BAD);
    });
  }
}
