import java.lang.reflect.InvocationTargetException;
import java.lang.reflect.Method;
import java.util.Arrays;
import java.util.Comparator;
import java.util.List;

/** Wild calls in any state: nothing is thrown, what is refused changes nothing, questions change nothing. */
public final class WildTest {
  private static final List<String> CHANGING = List.of("row", "lay", "tear", "copy", "text", "put", "family", "say", "day",
    "undo", "keep", "on", "settle", "lots");
  private static final List<String> ASKING = List.of("lay", "at", "mean", "saying", "talk", "rows", "next");
  private static final List<String> SHARING = List.of("rows", "mid", "odds");
  private static final int[] WILD = {Integer.MIN_VALUE, -2, -1, 6, 7, 12, 13, 20, 21, 40, 41, 60, 61, 99, 100, Integer.MAX_VALUE};
  private static final String[] FAMILIES = {"f9645 s31h22g74j10w41p16 d05d06", "f2h07s90", "f99s10w07j11 d00", "f9876p01g34h02w57d11d10d01",
    "f0s00", "f1234j03j14j25j36j47j50"};

  private static int wrong = 0;
  private static long seed = 4711;

  private static int pick(int n) {
    seed = seed * 6364136223846793005L + 1442695040888963407L;
    return (int) ((seed >>> 33) % n);
  }

  private static void that(String what, boolean holds) {
    if (!holds && ++wrong < 30) System.out.println("not so: " + what);
  }

  public static void main(String[] args) throws Exception {
    Method[] all = Arrays.stream(StuckDoor.class.getMethods()).filter(m -> m.getDeclaringClass() == StuckDoor.class)
      .sorted(Comparator.comparing(Method::getName)).toArray(Method[]::new);
    int calls = 0;
    for (int run = 0; run < 600; run++) {
      StuckDoor d = new StuckDoor();
      for (int k = 0; k < 200; k++, calls++) {
        if (k % 90 == 10) begin(d);
        oneCall(d, all[pick(all.length)]);
      }
    }
    System.out.println(calls + " wild calls, " + wrong + " wrong");
    if (wrong != 0) System.exit(1);
  }

  private static void begin(StuckDoor d) {
    String s = FAMILIES[pick(FAMILIES.length)];
    int t = pick(4);
    d.text(t, s.length());
    for (int i = 0; i < s.length(); i++) d.put(t, i, s.charAt(i));
    that("a family", d.family(t) > 0);
  }

  private static int found(StuckDoor d) {
    int sum = 0;
    for (int f = 1; f <= 5; f++) sum += d.findings(f);
    return sum;
  }

  private static void oneCall(StuckDoor d, Method m) throws Exception {
    Object[] args = new Object[m.getParameterCount()];
    for (int i = 0; i < args.length; i++) args[i] = pick(8) == 0 ? WILD[pick(WILD.length)] : pick(8) == 0 ? pick(60) : pick(4);
    String what = m.getName() + Arrays.toString(args);
    long before = d.digest(), upper = d.upper(), lower = d.lower();
    int asked = d.asked(), finding = d.finding(), findings = found(d);
    long answer;
    try {
      answer = ((Number) m.invoke(d, args)).longValue();
    } catch (InvocationTargetException e) {
      that(what + " throws " + e.getCause(), false);
      return;
    }
    boolean tells = List.of("asked", "upper", "lower", "digest").contains(m.getName());
    boolean refused = !tells && answer < 0 && answer != StuckDoor.NONE;
    that(what + " changes nothing", d.digest() == before || !refused && CHANGING.contains(m.getName()));
    that(what + " tells nothing", d.asked() == asked || !refused && ASKING.contains(m.getName()));
    that(what + " shares nothing", d.upper() == upper && d.lower() == lower || !refused && SHARING.contains(m.getName()));
    that(what + " answers a code", !refused || answer >= -4);
    boolean finds = !tells && answer == StuckDoor.FINDING;
    that(what + " is counted", found(d) - findings == (finds ? 1 : 0));
    that(what + " is the latest", finds ? d.finding() >= 1 && d.finding() <= 5 : d.finding() == finding);
    that(what + " lower() is above 0", d.lower() > 0 && d.upper() >= 0);
  }
}
