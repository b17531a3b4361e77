import java.lang.reflect.Method;
import java.util.ArrayList;
import java.util.Arrays;
import java.util.HashMap;
import java.util.List;
import java.util.Map;
import java.util.function.Supplier;

/**
 * Every call with all its edges at once, in every state: which refusal comes first is told here by the document's own
 * order, apart from the class; what is refused changes nothing.
 */
public final class RefusalsTest {
  private static final int TAKEN = 0, BAD = Edges.BAD, FULL = Edges.FULL, STATE = Edges.STATE;
  private static final int NOTHING = Edges.NOTHING, BEYOND = Edges.BEYOND, UNLIKE = Edges.UNLIKE, NOUGHT = Edges.NOUGHT,
    SIZE = Edges.SIZE, MIN = Edges.MIN, MAX = Edges.MAX;

  private static final int[] ROWS = {MIN, -1, 0, 1, 2, 3, 4, 5, 6, MAX}, TEXTS = {MIN, -1, 0, 1, 2, 3, 4, MAX},
    SOME_ROWS = {-1, 0, 1, 5, 6}, KEPT = {MIN, -1, 0, 1, 2, 3, MAX}, PEOPLE = {-1, 0, 3, 4, MAX}, SAYINGS = {-1, 0, 5, 6, MAX},
    ROOMS = {-1, 0, 5, 11, 12, MIN}, SIZES = {MIN, -1, 0, 40, 41, 60, 61, MAX}, PLACES = {MIN, -1, 0, 2, 3, 30, 31, 39, 40, MAX},
    SOME_PLACES = {-1, 0, 2, 3, 4, MAX}, MANY = {MIN, -1, 0, 1, 3, 4, MAX}, VALUES = {5}, TURNS = {-1, 0, 5, 6}, ASPECTS = {-1, 0, 4, 5},
    KINDS = {-1, 0, 1, 2, 3, 4, 5, 6}, DEEDS = {MIN, -1, 0, 1, 3, 4, 5, 6, 39, 40, 41, MAX}, NEARS = {-1, 0, 99, 100},
    SAID = {-1, 0, 9, 10}, OPEN = {-1, 0, 3, 4}, TWELFTHS = {-1, 0, 12, 13}, LOTS = {-1, 0, 1, 20, 21}, SEEDS = {-1, 0, 1, MAX - 1, MAX},
    COUNTS = {MIN, -1, 0, 10, 11, MAX}, FINDINGS = {MIN, -1, 0, 1, 5, 6, MAX};

  private static final Map<String, int[][]> CALLS = new HashMap<>();

  /** What of a state refusals hang on. */
  private static final class Known {
    final Supplier<StuckDoor> maker;
    final boolean hasFamily, isOver;
    final int deeds;

    Known(Supplier<StuckDoor> maker, boolean hasFamily, boolean isOver, int deeds) {
      this.maker = maker;
      this.hasFamily = hasFamily;
      this.isOver = isOver;
      this.deeds = deeds;
    }
  }

  private static final Known[] STATES = {new Known(Edges::bare, false, false, 0), new Known(Edges::rich, true, false, 4),
    new Known(Edges::over, true, true, 5), new Known(Edges::full, true, false, 40), new Known(Edges::overFull, true, true, 40)};
  /** The ints of ROWS as Edges.bare() lays them: are they pairs, are they SAYINGS. */
  private static final boolean[] ARE_PAIRS = {false, true, false, true, true}, ARE_SAYINGS = {false, true, false, true, true};

  private static void call(String name, int[]... grids) {
    CALLS.put(name, grids);
  }

  public static void main(String[] args) throws Exception {
    call("row", ROWS, SIZES); call("lay", ROWS, PLACES, VALUES); call("at", ROWS, PLACES); call("tear", ROWS);
    call("copy", SOME_ROWS, SOME_PLACES, SOME_ROWS, SOME_PLACES, MANY); call("mean", ROWS); call("text", TEXTS, SIZES);
    call("put", TEXTS, PLACES, VALUES); call("fault", TEXTS); call("family", TEXTS); call("saying", SAYINGS, ASPECTS);
    call("mark", new int[] {-1, 0, 1, 2, 3, 4, 5, 6}, KINDS); call("bears", PEOPLE); call("say", PEOPLE, SAYINGS); call("day");
    call("undo", DEEDS); call("keep", KEPT); call("on", KEPT); call("can", PEOPLE); call("over", SAYINGS); call("talk", ROWS);
    call("waits", PEOPLE, SAYINGS); call("settle", PEOPLE, ROWS); call("least", PEOPLE, TURNS); call("rows", PEOPLE, TURNS);
    call("stuck"); call("way", ROOMS, ROOMS); call("cuts", ROOMS, ROOMS); call("round", ROOMS, ROOMS); call("never", ROWS);
    call("next", ROWS); call("kinds", SAYINGS, NEARS, SAID, OPEN); call("duel", PEOPLE, PEOPLE); call("opens", PEOPLE, PEOPLE);
    call("mid", TWELFTHS, TWELFTHS); call("odds", PEOPLE, SAYINGS, TWELFTHS, TWELFTHS); call("lots", LOTS, SEEDS);
    call("asked"); call("upper"); call("lower"); call("count", COUNTS); call("finding"); call("findings", FINDINGS); call("digest");
    Edges.sentence("Terms", "Refused is, the first of these that fits, in this order", RefusalsTest::all);
    Edges.end();
  }

  private static void all() {
    int known = 0;
    for (Method m : StuckDoor.class.getDeclaredMethods()) {
      if (!java.lang.reflect.Modifier.isPublic(m.getModifiers())) continue;
      int[][] grids = CALLS.get(m.getName());
      Edges.is(m.getName() + " has edges", grids == null ? -1 : grids.length, m.getParameterCount());
      if (grids != null) each(m, grids);
      known++;
    }
    Edges.is("all calls of the document", known, CALLS.size());
  }

  private static void each(Method m, int[][] grids) {
    List<int[]> all = new ArrayList<>(List.of(new int[0]));
    for (int[] grid : grids) {
      List<int[]> longer = new ArrayList<>();
      for (int[] some : all) {
        for (int v : grid) {
          int[] more = Arrays.copyOf(some, some.length + 1);
          more[some.length] = v;
          longer.add(more);
        }
      }
      all = longer;
    }
    for (Known s : STATES) for (int[] a : all) one(m, s, a);
  }

  private static long invoke(Method m, StuckDoor d, int[] a) {
    try {
      Object[] boxed = new Object[a.length];
      for (int i = 0; i < a.length; i++) boxed[i] = a[i];
      return ((Number) m.invoke(d, boxed)).longValue();
    } catch (ReflectiveOperationException e) {
      throw new IllegalStateException(m + Arrays.toString(a), e);
    }
  }

  private static void one(Method m, Known s, int[] a) {
    String what = m.getName() + Arrays.toString(a);
    int due = refusal(m.getName(), s, a);
    if (due == TAKEN) {
      if (List.of("asked", "upper", "lower", "digest").contains(m.getName())) return;
      long answer = invoke(m, s.maker.get(), a);
      Edges.is(what + " is taken", answer >= 0 || answer == Edges.NONE ? 1 : 0, 1);
    } else if (due < 0) {
      Edges.refused(what, s.maker, due, d -> invoke(m, d, a));
    } else {
      Edges.finds(what, s.maker, due, d -> invoke(m, d, a));
    }
  }

  // ---- what the document says: TAKEN, a refusal below 0, or a FINDING above it

  private static boolean in(int v, int least, int most) {
    return v >= least && v <= most;
  }

  private static boolean isOne(Known s, int x) {
    return s.hasFamily && in(x, 0, 3);
  }

  private static boolean isSaying(Known s, int i) {
    return s.hasFamily && in(i, 0, 5);
  }

  private static int stateIfOver(Known s) {
    return s.isOver || !s.hasFamily ? STATE : TAKEN;
  }

  private static int refusal(String name, Known s, int[] a) {
    switch (name) {
      case "row": return !in(a[0], 0, 5) || a[1] > 40 ? BAD : a[1] < 0 ? SIZE : TAKEN;
      case "text": return !in(a[0], 0, 3) || a[1] > 60 ? BAD : a[1] < 0 ? SIZE : TAKEN;
      case "lay": case "at": return place(Edges.ROW_SIZES, a[0], a[1]);
      case "put": return place(Edges.TEXT_SIZES, a[0], a[1]);
      case "tear": return there(Edges.ROW_SIZES, a[0]);
      case "copy": return copy(a);
      case "mean": return there(Edges.ROW_SIZES, a[0]) != TAKEN ? there(Edges.ROW_SIZES, a[0]) : a[0] == 1 ? NOUGHT : TAKEN;
      case "fault": return there(Edges.TEXT_SIZES, a[0]);
      case "family": return there(Edges.TEXT_SIZES, a[0]) != TAKEN ? there(Edges.TEXT_SIZES, a[0]) : a[0] == 0 ? TAKEN : STATE;
      case "saying": return isSaying(s, a[0]) && in(a[1], 0, 4) ? TAKEN : BAD;
      case "mark": return !isSaying(s, a[0]) || !in(a[1], 1, 5) ? BAD : isOfKind(a[0], a[1]) ? TAKEN : UNLIKE;
      case "bears": case "can": return isOne(s, a[0]) ? TAKEN : BAD;
      case "over": return isSaying(s, a[0]) ? TAKEN : BAD;
      case "say": return !isOne(s, a[0]) || !isSaying(s, a[1]) ? BAD : s.isOver ? STATE : s.deeds == 40 ? FULL : TAKEN;
      case "day": return !s.hasFamily ? STATE : s.deeds == 40 ? FULL : TAKEN;
      case "undo": return in(a[0], 0, s.deeds) ? TAKEN : BAD;
      case "keep": return !in(a[0], 0, 2) ? BAD : s.hasFamily ? TAKEN : STATE;
      case "on": return !in(a[0], 0, 2) ? BAD : s.hasFamily && a[0] <= 1 ? TAKEN : NOTHING;
      default: return refusalOfQuestion(name, s, a);
    }
  }

  private static int refusalOfQuestion(String name, Known s, int[] a) {
    switch (name) {
      case "talk": return talk(s, a[0]);
      case "waits": return !isOne(s, a[0]) || !isSaying(s, a[1]) ? BAD : s.isOver ? STATE : TAKEN;
      case "settle": return !isOne(s, a[0]) || !in(a[1], 0, 5) ? BAD : stateIfOver(s);
      case "least": case "rows": return !isOne(s, a[0]) || !in(a[1], 0, 5) ? BAD : stateIfOver(s);
      case "way": case "cuts": case "round": return in(a[0], 0, 11) && in(a[1], 0, 11) ? TAKEN : BAD;
      case "never": return named(s, a[0]);
      case "next": return !in(a[0], 0, 5) ? BAD : !s.hasFamily ? STATE : named(s, a[0]);
      case "kinds": return isSaying(s, a[0]) && in(a[1], 0, 99) && in(a[2], 0, 9) && in(a[3], 0, 3) ? TAKEN : BAD;
      case "duel": case "opens": return !isOne(s, a[0]) || !isOne(s, a[1]) || a[0] == a[1] ? BAD : stateIfOver(s);
      case "mid": return !in(a[0], 0, 12) || !in(a[1], 0, 12) ? BAD : s.hasFamily ? TAKEN : STATE;
      case "odds": return !isOne(s, a[0]) || !isSaying(s, a[1]) || !in(a[2], 0, 12) || !in(a[3], 0, 12) ? BAD : stateIfOver(s);
      case "lots": return !in(a[0], 1, 20) || !in(a[1], 1, 2147483646) ? BAD : !s.hasFamily ? STATE : s.deeds + a[0] > 40 ? FULL : TAKEN;
      case "count": return in(a[0], 0, 10) ? TAKEN : BAD;
      case "findings": return in(a[0], 1, 5) ? TAKEN : BAD;
      default: return TAKEN;
    }
  }

  private static int there(int[] sizes, int r) {
    return !in(r, 0, sizes.length - 1) ? BAD : sizes[r] < 0 ? NOTHING : TAKEN;
  }

  private static int place(int[] sizes, int r, int i) {
    return there(sizes, r) != TAKEN ? there(sizes, r) : in(i, 0, sizes[r] - 1) ? TAKEN : BEYOND;
  }

  private static int copy(int[] a) {
    if (!in(a[0], 0, 5) || !in(a[2], 0, 5)) return BAD;
    if (a[4] < 0) return SIZE;
    int from = Edges.ROW_SIZES[a[0]], to = Edges.ROW_SIZES[a[2]];
    if (from < 0 || to < 0) return NOTHING;
    return a[1] < 0 || a[3] < 0 || (long) a[1] + a[4] > from || (long) a[3] + a[4] > to ? BEYOND : TAKEN;
  }

  /** SAYINGS 0 .. 5 of Edges.ALL are of KINDS 0 .. 5. */
  private static boolean isOfKind(int i, int kind) {
    return i == kind || kind == 1 && (i == 3 || i == 5) || kind == 2 && i == 4;
  }

  private static int talk(Known s, int r) {
    if (!in(r, 0, 5)) return BAD;
    if (stateIfOver(s) != TAKEN) return STATE;
    if (there(Edges.ROW_SIZES, r) != TAKEN) return NOTHING;
    int n = Edges.ROW_SIZES[r];
    return n % 2 == 1 || n > 20 ? SIZE : ARE_PAIRS[r] ? TAKEN : UNLIKE;
  }

  private static int named(Known s, int r) {
    if (there(Edges.ROW_SIZES, r) != TAKEN) return there(Edges.ROW_SIZES, r);
    int n = Edges.ROW_SIZES[r];
    return n > 12 ? SIZE : n == 0 || s.hasFamily && ARE_SAYINGS[r] ? TAKEN : UNLIKE;
  }
}
