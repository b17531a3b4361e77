import java.math.BigInteger;
import java.util.ArrayList;
import java.util.List;
import java.util.regex.Matcher;
import java.util.regex.Pattern;

/** Compares answers with a model that is written otherwise, slow and plain, over many families made by a fixed seed. */
public final class ModelTest {
  private static final int BAD = -1, STATE = -4, NONE = -9;
  private static final String LETTERS = "shgjwp";

  private static int wrong = 0;
  private static int checks = 0;
  private static long seed = 20261117;

  private static int pick(int n) {
    seed = (seed * 6364136223846793005L + 1442695040888963407L);
    return (int) ((seed >>> 33) % n);
  }

  private static void is(String what, long got, long due) {
    checks++;
    if (got != due) {
      wrong++;
      if (wrong < 50) System.out.println(what + " answered " + got + ", due is " + due);
    }
  }

  /** How things stand; every step makes a new one. */
  private static final class Stand {
    final String text;
    final int strain, settled, over;
    final int[] said;

    Stand(String text, int strain, int settled, int over, int[] said) {
      this.text = text;
      this.strain = strain;
      this.settled = settled;
      this.over = over;
      this.said = said;
    }

    int people() { return text.indexOf(' ') - 1; }
    int bears(int x) { return text.charAt(1 + x) - '0'; }
    int sayings() {
      int end = text.indexOf('d') < 0 ? text.length() : text.indexOf('d');
      return (end - people() - 2) / 3;
    }
    char letter(int i) { return text.charAt(people() + 2 + 3 * i); }
    int told(int i) { return text.charAt(people() + 3 + 3 * i) - '0'; }
    int topics(int i) { return text.charAt(people() + 4 + 3 * i) - '0'; }
    boolean isRoomStuck(int room) { return text.contains("d" + (room < 10 ? "0" : "") + room); }
    int open() { return (~settled & 1) + (~settled >> 1 & 1) + (~settled >> 2 & 1); }
    int near(int i) { return nearOf(letter(i), told(i), said[i], open()); }

    static int nearOf(char letter, int told, int said, int open) {
      int hint = told + said;
      if (letter == 'h') return hint;
      if (letter == 'j') return hint < 2 ? 0 : hint - 2;
      if (letter == 'p') return hint + hint;
      if (letter == 'g') return told >> 1;
      if (letter == 'w') return (told >> 1) + open;
      return told;
    }

    Stand say(int x, int i) {
      int[] more = said.clone();
      more[i]++;
      int then = strain + near(i);
      return new Stand(text, then, settled | topics(i), then > bears(x) ? x : over, more);
    }

    Stand day() { return new Stand(text, strain == 0 ? 0 : strain - 1, settled, over, said); }
    boolean can(int x, int i) { return say(x, i).over != x; }
  }

  public static void main(String[] args) {
    for (int run = 0; run < 400; run++) oneFamily(run);
    for (int run = 0; run < 20000; run++) oneFault();
    System.out.println(checks + " checks, " + wrong + " wrong");
    if (wrong != 0) System.exit(1);
  }

  private static String anyText() {
    StringBuilder b = new StringBuilder("f");
    int people = 1 + pick(4);
    for (int x = 0; x < people; x++) b.append(pick(3) == 0 ? pick(10) : 4 + pick(6));
    b.append(' ');
    int sayings = 1 + pick(6);
    for (int i = 0; i < sayings; i++) b.append(LETTERS.charAt(pick(6))).append(pick(2) == 0 ? pick(10) : pick(4)).append(pick(8));
    int stuck = pick(6);
    List<Integer> rooms = new ArrayList<>();
    for (int i = 0; i < stuck; i++) {
      int room = pick(12);
      if (!rooms.contains(room)) {
        rooms.add(room);
        b.append('d').append(room / 10).append(room % 10);
      }
    }
    return b.toString();
  }

  private static void write(StuckDoor d, int t, String s) {
    d.text(t, s.length());
    for (int i = 0; i < s.length(); i++) d.put(t, i, s.charAt(i));
  }

  private static void oneFamily(int run) {
    String text = anyText();
    StuckDoor d = new StuckDoor();
    write(d, 0, text);
    Stand s = new Stand(text, 0, 0, NONE, new int[6]);
    is(text + " family", d.family(0), s.sayings());
    List<Stand> past = new ArrayList<>();
    for (int i = pick(8); i > 0; i--) {
      past.add(s);
      s = anyDeed(d, s);
    }
    if (pick(3) == 0 && past.size() > 1) {
      int n = pick(past.size());
      is(text + " undo", d.undo(n), past.size() - n);
      s = past.get(n);
    }
    int deeds = d.count(3);
    asides(d, s);
    house(d, s);
    whatItIs(d, s);
    if (run % 4 == 0 || s.sayings() < 4) turns(d, s);
    duels(d, s);
    chances(d, s);
    is(text + " aside", d.count(3), deeds);
    stands(d, s);
    lots(d, s);
  }

  private static Stand anyDeed(StuckDoor d, Stand s) {
    int x = pick(s.people()), i = pick(s.sayings());
    if (pick(4) == 0) {
      is(s.text + " day", d.day(), s.day().strain);
      return s.day();
    }
    if (s.over != NONE) {
      is(s.text + " say", d.say(x, i), STATE);
      is(s.text + " day", d.day(), s.day().strain);
      return s.day();
    }
    Stand then = s.say(x, i);
    if (then.over != NONE && pick(8) != 0) {
      is(s.text + " day", d.day(), s.day().strain);
      return s.day();
    }
    is(s.text + " say", d.say(x, i), then.strain);
    return then;
  }

  private static void stands(StuckDoor d, Stand s) {
    is(s.text + " STRAIN", d.count(4), s.strain);
    is(s.text + " TOPICS", d.count(5), s.settled);
    is(s.text + " OVER", d.count(6), s.over);
    int hints = 0;
    for (int i = 0; i < s.sayings(); i++) {
      int[] due = {LETTERS.indexOf(s.letter(i)), s.told(i), s.near(i), s.topics(i), s.said[i]};
      for (int w = 0; w < 5; w++) {
        is(s.text + " saying", d.saying(i, w), 1);
        is(s.text + " saying " + w, d.asked(), due[w]);
      }
      if ("hjp".indexOf(s.letter(i)) >= 0) hints++;
      marks(d, s, i);
    }
    is(s.text + " HINTS", d.count(7), hints);
    is(s.text + " no more", d.saying(s.sayings(), 0), BAD);
  }

  private static void marks(StuckDoor d, Stand s, int i) {
    boolean hint = "hjp".indexOf(s.letter(i)) >= 0, grace = "gw".indexOf(s.letter(i)) >= 0;
    is(s.text + " mark 1", d.mark(i, 1), hint ? s.said[i] : -3);
    is(s.text + " mark 2", d.mark(i, 2), grace ? (s.told(i) + 1) / 2 : -3);
    int more = 0;
    while (Stand.nearOf('j', s.told(i), s.said[i] + more, 0) == 0) more++;
    is(s.text + " mark 3", d.mark(i, 3), s.letter(i) == 'j' ? more : -3);
    is(s.text + " mark 4", d.mark(i, 4), s.letter(i) == 'w' ? s.open() : -3);
    int over = 0;
    for (int x = 0; x < s.people() && s.over == NONE; x++) if (!s.can(x, i)) over++;
    is(s.text + " mark 5", d.mark(i, 5), s.letter(i) == 'p' ? over : -3);
  }

  private static void asides(StuckDoor d, Stand s) {
    for (int x = 0; x < s.people(); x++) {
      int can = 0;
      for (int i = 0; i < s.sayings(); i++) {
        if (s.over == NONE && s.can(x, i)) can |= 1 << i;
        int waits = s.over == NONE ? NONE : STATE;
        Stand later = s;
        for (int n = 0; n < 300 && waits == NONE; n++, later = later.day()) if (later.can(x, i)) waits = n;
        is(s.text + " waits", d.waits(x, i), waits);
      }
      is(s.text + " can", d.can(x), can);
    }
    int pairs = pick(11);
    d.row(0, 2 * pairs);
    Stand talk = s;
    int said = 0;
    for (int k = 0; k < pairs; k++) {
      int x = pick(s.people()), i = pick(s.sayings());
      d.lay(0, 2 * k, x);
      d.lay(0, 2 * k + 1, i);
      if (talk.over == NONE) {
        talk = talk.say(x, i);
        said++;
      }
    }
    is(s.text + " talk", d.talk(0), s.over == NONE ? said : STATE);
    if (s.over == NONE) is(s.text + " talk's STRAIN", d.asked(), talk.strain);
  }

  /** Every row of n TURNS by its number, of which the first TURN is the highest figure. */
  private static void turns(StuckDoor d, Stand s) {
    int fewest = NONE;
    List<Integer> first = new ArrayList<>();
    int x = pick(s.people());
    for (int n = 0; n <= 5; n++) {
      int base = s.sayings() + 1, all = 1, number = 0, topics = 0, least = NONE;
      for (int k = 0; k < n; k++) all *= base;
      for (int code = 0; code < all && s.over == NONE; code++) {
        Stand end = s;
        int rest = code;
        List<Integer> row = new ArrayList<>();
        for (int k = 0; k < n; k++) {
          row.add(0, rest % base == 0 ? NONE : rest % base - 1);
          rest /= base;
        }
        for (int k = 0; k < n && end.over == NONE; k++) {
          end = row.get(k) == NONE ? end.day() : end.say((x + k) % s.people(), row.get(k));
        }
        if (end.over != NONE) continue;
        number++;
        topics |= end.settled;
        if (end.settled != 7) continue;
        if (least == NONE || end.strain < least) least = end.strain;
        if (fewest == NONE) {
          fewest = n;
          first = row;
        }
      }
      is(s.text + " least " + n, d.least(x, n), s.over == NONE ? least : STATE);
      is(s.text + " rows " + n, d.rows(x, n), s.over == NONE ? 1 : STATE);
      if (s.over == NONE) {
        is(s.text + " rows " + n, d.upper(), number);
        is(s.text + " rows " + n, d.lower(), 1);
        is(s.text + " rows' TOPICS " + n, d.asked(), topics);
      }
    }
    is(s.text + " settle", d.settle(x, 5), s.over == NONE ? fewest : STATE);
    for (int k = 0; k < first.size(); k++) {
      d.at(5, k);
      is(s.text + " settle's TURN " + k, d.asked(), first.get(k));
    }
    is(s.text + " settle's ROW", d.at(5, first.size()), -3);
  }

  /** All ways without a ROOM twice, walked one by one. */
  private static void walk(Stand s, int room, int b, int gone, int[] told, boolean free) {
    int now = gone | 1 << room;
    if (!free && s.isRoomStuck(room)) return;
    if (room == b) {
      told[0] = Math.min(told[0], Integer.bitCount(now) - 1);
      told[1] &= now;
      return;
    }
    int[][] steps = {{-1, 0}, {1, 0}, {0, -1}, {0, 1}};
    for (int[] step : steps) {
      int up = room / 4 + step[0], side = room % 4 + step[1];
      if (up < 0 || up > 2 || side < 0 || side > 3 || (now >> (4 * up + side) & 1) != 0) continue;
      walk(s, 4 * up + side, b, now, told, free);
    }
  }

  private static void house(StuckDoor d, Stand s) {
    int bits = 0;
    for (int room = 0; room < 12; room++) if (s.isRoomStuck(room)) bits |= 1 << room;
    is(s.text + " stuck", d.stuck(), bits);
    for (int k = 0; k < 20; k++) {
      int a = pick(12), b = pick(12);
      int[] now = {99, 4095}, free = {99, 4095};
      walk(s, a, b, 0, now, false);
      walk(s, a, b, 0, free, true);
      is(s.text + " way " + a + " " + b, d.way(a, b), now[0] == 99 ? NONE : now[0]);
      is(s.text + " cuts " + a + " " + b, d.cuts(a, b), now[0] == 99 ? 0 : now[1]);
      is(s.text + " round " + a + " " + b, d.round(a, b), now[0] == 99 ? NONE : now[0] - free[0]);
    }
  }

  private static void whatItIs(StuckDoor d, Stand s) {
    int n = pick(4);
    boolean[] has = new boolean[3];
    d.row(1, n);
    for (int k = 0; k < n; k++) {
      int i = pick(s.sayings());
      d.lay(1, k, i);
      for (int t = 0; t < 3; t++) has[t] |= (s.topics(i) >> t & 1) == 1;
    }
    int never = 0, best = -1, bestRank = -1, most = 0;
    for (int t = 0; t < 3; t++) if (!has[t]) never += 1 << t;
    for (int i = 0; i < s.sayings(); i++) {
      int many = 0;
      for (int t = 0; t < 3; t++) if (!has[t] && (s.topics(i) >> t & 1) == 1) many++;
      int rank = many * 1000 + 999 - s.near(i);
      if (rank > bestRank) {
        best = i;
        bestRank = rank;
        most = many;
      }
    }
    is(s.text + " never", d.never(1), never);
    is(s.text + " next", d.next(1), best);
    is(s.text + " next's TOPICS", d.asked(), most);
    for (int k = 0; k < 30; k++) {
      int i = pick(s.sayings()), near = pick(14), said = pick(10), open = pick(4), kinds = 0;
      for (int kind = 0; kind < 6; kind++) {
        if (Stand.nearOf(LETTERS.charAt(kind), s.told(i), said, open) == near) kinds += 1 << kind;
      }
      is(s.text + " kinds", d.kinds(i, near, said, open), kinds);
    }
  }

  /** Who is OVER of two: 0, 1 or NONE, each of them by what one would rather have. */
  private static int outcome(Stand s, int[] two, int turn, int used) {
    int best = -2;
    for (int i = 0; i < s.sayings(); i++) {
      if ((used >> i & 1) == 1) continue;
      int result = outcomeBy(s, two, turn, used, i);
      if (best == -2 || rank(result, turn) > rank(best, turn)) best = result;
    }
    return best == -2 ? NONE : best;
  }

  private static int outcomeBy(Stand s, int[] two, int turn, int used, int i) {
    Stand then = s.say(two[turn], i);
    return then.over != NONE ? turn : outcome(then, two, 1 - turn, used | 1 << i);
  }

  private static int rank(int result, int who) {
    return result == NONE ? 1 : result == who ? 0 : 2;
  }

  private static void duels(StuckDoor d, Stand s) {
    if (s.people() < 2) return;
    int x = pick(s.people()), y = (x + 1 + pick(s.people() - 1)) % s.people();
    if (s.over != NONE) {
      is(s.text + " duel", d.duel(x, y), STATE);
      is(s.text + " opens", d.opens(x, y), STATE);
      return;
    }
    int[] two = {x, y};
    int due = outcome(s, two, 0, 0), opens = 0;
    while (outcomeBy(s, two, 0, 0, opens) != due) opens++;
    is(s.text + " duel " + x + " " + y, d.duel(x, y), due);
    is(s.text + " opens " + x + " " + y, d.opens(x, y), opens);
  }

  /** Every course of n DAYS, each by its own weight. */
  private static void chances(StuckDoor d, Stand s) {
    int n = pick(13), p = pick(13), x = pick(s.people()), i = pick(s.sayings());
    BigInteger sum = BigInteger.ZERO, fit = BigInteger.ZERO, all = BigInteger.valueOf(12).pow(n);
    for (int course = 0; course < 1 << n; course++) {
      Stand end = s;
      BigInteger weight = BigInteger.ONE;
      for (int k = 0; k < n; k++) {
        boolean stays = (course >> k & 1) == 1;
        weight = weight.multiply(BigInteger.valueOf(stays ? p : 12 - p));
        if (!stays) end = end.day();
      }
      sum = sum.add(weight.multiply(BigInteger.valueOf(end.strain)));
      if (s.over == NONE && end.can(x, i)) fit = fit.add(weight);
    }
    is(s.text + " mid", d.mid(n, p), 1);
    share(d, s.text + " mid", sum, all);
    is(s.text + " odds", d.odds(x, i, n, p), s.over == NONE ? 1 : STATE);
    if (s.over == NONE) share(d, s.text + " odds", fit, all);
  }

  private static void share(StuckDoor d, String what, BigInteger part, BigInteger all) {
    BigInteger common = part.gcd(all);
    is(what + " upper", d.upper(), part.divide(common).longValueExact());
    is(what + " lower", d.lower(), all.divide(common).longValueExact());
  }

  private static void lots(StuckDoor d, Stand s) {
    int n = 1 + pick(20), first = 1 + pick(2147483646);
    BigInteger lot = BigInteger.valueOf(first);
    int days = d.count(2);
    for (int k = 0; k < n; k++) {
      lot = lot.multiply(BigInteger.valueOf(48271)).mod(BigInteger.valueOf(2147483647));
      int number = lot.intValueExact();
      int x = (number >> 6) % s.people(), i = number % s.sayings();
      if ((number >> 3 & 3) != 0 && s.over == NONE && s.can(x, i)) {
        s = s.say(x, i);
      } else {
        s = s.day();
        days++;
      }
    }
    is(s.text + " lots", d.lots(n, first), s.strain);
    is(s.text + " lots' DAYS", d.count(2), days);
    stands(d, s);
  }

  /** A FAULT is behind the longest beginning that can still become a FAMILY. */
  private static final Pattern FAMILY = Pattern.compile(" *f[0-9]{1,4} *(?:[shgjwp][0-9][0-7] *){1,6}(?:d(?:0[0-9]|1[01]) *)*");

  private static int faultOf(String s) {
    for (int n = 1; n <= s.length(); n++) {
      Matcher m = FAMILY.matcher(s.substring(0, n));
      if (!m.matches() && !m.hitEnd()) return n - 1;
      boolean isRoom = n >= 3 && s.charAt(n - 3) == 'd' && m.matches();
      if (isRoom && s.indexOf(s.substring(n - 3, n)) < n - 3) return n - 1;
    }
    return FAMILY.matcher(s).matches() ? NONE : s.length();
  }

  private static void oneFault() {
    StringBuilder b = new StringBuilder(anyText());
    for (int k = pick(3); k > 0; k--) b.insert(pick(b.length() + 1), ' ');
    for (int k = pick(3); k > 0; k--) {
      int i = pick(b.length());
      int how = pick(5);
      if (how == 0) b.setLength(Math.max(1, i));
      else if (how == 1 && b.length() > 1) b.deleteCharAt(i);
      else if (how == 2) b.insert(i, b.charAt(pick(b.length())));
      else if (how == 3) b.setCharAt(i, "fshgjwpd0123456789 x".charAt(pick(20)));
      else b.append("d0").append(pick(10));
    }
    String s = b.length() > 60 ? b.substring(0, 60) : b.toString();
    StuckDoor d = new StuckDoor();
    write(d, 2, s);
    is("fault of '" + s + "'", d.fault(2), faultOf(s));
  }
}
