import java.util.function.Supplier;

/** The edges that the document's Terms name: a test for each sentence. */
public final class TermsEdgesTest {
  private static final int BAD = Edges.BAD, FULL = Edges.FULL, FINDING = Edges.FINDING, STATE = Edges.STATE, NONE = Edges.NONE;
  private static final int NOTHING = Edges.NOTHING, BEYOND = Edges.BEYOND, UNLIKE = Edges.UNLIKE, NOUGHT = Edges.NOUGHT,
    SIZE = Edges.SIZE;

  private static void term(String words, Runnable test) {
    Edges.sentence("Terms", words, test);
  }

  public static void main(String[] args) {
    refusals(); findings(); numbers(); rowsAndTexts(); familyTexts(); faults(); faultsAtEnds(); kinds(); near(); strain();
    turns(); house(); lots(); calls();
    Edges.end("Terms");
  }

  private static void refusals() {
    term("Refused is, the first of these that fits, in this order: BAD -1 (a number that is none, or not as told), FULL -2, "
      + "STATE -4 (not now), SPENT -6 (more than told), FINDING -3 (finding() tells which), unless a call says so otherwise.",
      () -> {
        Edges.is("BAD", StuckDoor.BAD, -1);
        Edges.is("FULL", StuckDoor.FULL, -2);
        Edges.is("STATE", StuckDoor.STATE, -4);
        Edges.is("SPENT", StuckDoor.SPENT, -6);
        Edges.is("FINDING", StuckDoor.FINDING, -3);
        Edges.refused("BAD ahead of FULL", Edges::full, BAD, d -> d.say(4, 0));
        Edges.refused("BAD ahead of STATE", Edges::over, BAD, d -> d.say(0, 6));
        Edges.refused("BAD ahead of a FINDING", Edges::rich, BAD, d -> d.row(6, -1));
        Edges.refused("STATE ahead of a FINDING", Edges::over, STATE, d -> d.talk(5));
        Edges.refused("otherwise: STATE ahead of FULL", Edges::overFull, STATE, d -> d.say(0, 0));
        Edges.finds("otherwise: a FINDING ahead of STATE", Edges::rich, NOTHING, d -> d.family(3));
      });
    term("NONE -9.", () -> Edges.is("NONE", StuckDoor.NONE, -9));
    term("What is refused changes nothing but finding(), findings().", () -> {
      Edges.bad("row", d -> d.row(2, 41));
      Edges.findsAlways("row", SIZE, d -> d.row(2, -1));
      Edges.findsAlways("lay", BEYOND, d -> d.lay(0, 3, 5));
      Edges.findsAlways("tear", NOTHING, d -> d.tear(5));
      Edges.findsAlways("copy", BEYOND, d -> d.copy(2, 0, 0, 0, 4));
      Edges.findsAlways("mean", NOUGHT, d -> d.mean(1));
      Edges.bad("text", d -> d.text(0, 61));
      Edges.findsAlways("text", SIZE, d -> d.text(0, -1));
      Edges.findsAlways("put", BEYOND, d -> d.put(0, 31, 65));
      for (Supplier<StuckDoor> maker : Edges.states()) Edges.refused("family", maker, STATE, d -> d.family(1));
      refusedDeeds();
      refusedQuestions();
    });
  }

  private static void refusedDeeds() {
    Edges.refused("say, OVER", Edges::over, STATE, d -> d.say(0, 3));
    Edges.refused("say, FULL", Edges::full, FULL, d -> d.say(0, 3));
    Edges.refused("day, bare", Edges::bare, STATE, d -> d.day());
    Edges.refused("day, FULL", Edges::full, FULL, d -> d.day());
    Edges.refused("day, FULL and OVER", Edges::overFull, FULL, d -> d.day());
    Edges.bad("undo", d -> d.undo(41));
    Edges.refused("keep", Edges::bare, STATE, d -> d.keep(2));
    Edges.findsAlways("on", NOTHING, d -> d.on(2));
    Edges.refused("lots, bare", Edges::bare, STATE, d -> d.lots(1, 1));
    Edges.refused("lots, FULL", Edges::full, FULL, d -> d.lots(1, 1));
    Edges.refused("lots, too many", Edges::rich, BAD, d -> d.lots(21, 1));
  }

  private static void refusedQuestions() {
    Edges.refused("talk", Edges::over, STATE, d -> d.talk(3));
    Edges.finds("talk", () -> Edges.fill(Edges.rich(), 0, 0, 1, 0, 6), UNLIKE, d -> d.talk(0));
    Edges.refused("settle", Edges::over, STATE, d -> d.settle(0, 0));
    Edges.bad("settle", d -> d.settle(4, 0));
    Edges.refused("rows", Edges::over, STATE, d -> d.rows(0, 1));
    Edges.finds("next", Edges::rich, UNLIKE, d -> d.next(0));
    Edges.refused("mid", Edges::bare, STATE, d -> d.mid(1, 1));
    Edges.refused("odds", Edges::over, STATE, d -> d.odds(0, 0, 1, 1));
  }

  private static void findings() {
    term("FINDINGS: 1 NOTHING (a ROW, a TEXT, a kept FAMILY that is missing)", () -> {
      Edges.findsAlways("a ROW", 1, d -> d.at(5, 0));
      Edges.findsAlways("a TEXT", 1, d -> d.fault(3));
      Edges.findsAlways("a kept FAMILY", 1, d -> d.on(2));
    });
    term("2 BEYOND (a place of a ROW, a TEXT that there is not)", () -> {
      Edges.findsAlways("a place of a ROW", 2, d -> d.at(0, 3));
      Edges.findsAlways("a place of a TEXT", 2, d -> d.put(1, 2, 0));
    });
    term("3 UNLIKE (a SAYING of another KIND; a number that is none)", () -> {
      Edges.finds("a SAYING of another KIND", Edges::rich, 3, d -> d.mark(0, 1));
      Edges.finds("a number that is none", Edges::rich, 3, d -> d.never(0));
    });
    term("4 NOUGHT (shared among none)", () -> Edges.findsAlways("mean", 4, d -> d.mean(1)));
    term("5 SIZE (fewer than none; too many, not as many as due)", () -> {
      Edges.findsAlways("fewer than none", 5, d -> d.row(0, -1));
      Edges.findsAlways("too many", 5, d -> d.never(4));
      Edges.finds("not as many as due", Edges::rich, 5, d -> d.talk(0));
    });
  }

  private static void numbers() {
    term("Chances, means, numbers of rows are told by upper(), lower(), in lowest terms, the lower number above 0 (0 by 1).",
      () -> {
        StuckDoor d = Edges.of("f9s40s00");
        Edges.shares("a mean that is 0", d, d.mid(12, 12), 0, 1);
        d.say(0, 0);
        Edges.shares("a mean", d, d.mid(1, 6), 7, 2);
        Edges.shares("a mean that is a number", d, d.mid(3, 4), 2, 1);
        Edges.shares("a mean that is 0 behind DAYS", d, d.mid(12, 0), 0, 1);
        Edges.shares("chances", d, d.odds(0, 0, 1, 9), 1, 1);
        d.say(0, 0);
        Edges.shares("chances in lowest terms", d, d.odds(0, 0, 3, 8), 1, 27);
        Edges.shares("chances none", d, d.odds(0, 0, 3, 12), 0, 1);
        Edges.shares("numbers of rows", d, d.rows(0, 1), 2, 1);
      });
    term("Sets (of SAYINGS, of PEOPLE, of TOPICS, of ROOMS) are told by bits.", () -> {
      StuckDoor d = Edges.of("f1090 s14s01s90s00s00s12 d00d11");
      Edges.is("SAYINGS", d.can(1), 1 << 1 | 1 << 3 | 1 << 4);
      Edges.is("PEOPLE", d.over(0), 1 << 1 | 1 << 3);
      d.say(2, 0);
      d.say(2, 1);
      Edges.is("TOPICS", d.count(5), 4 | 1);
      Edges.is("ROOMS", d.stuck(), 1 | 1 << 11);
    });
  }

  private static void rowsAndTexts() {
    term("ROWS 0 .. 5 are rows of 0 to 40 ints", () -> {
      for (int r = 0; r <= 5; r++) {
        StuckDoor d = Edges.fresh();
        Edges.is("none", d.row(r, 0), 0);
        Edges.is("forty", d.row(r, 40), 40);
        Edges.asks("a place holds an int", d, 0, d.lay(r, 39, Edges.MIN));
        Edges.asks("the least int", d, Edges.MIN, d.lay(r, 39, Edges.MAX));
        Edges.asks("the largest int", d, Edges.MAX, d.at(r, 39));
        Edges.is("no place 40", d.at(r, 40), FINDING);
      }
      Edges.bad("no ROW -1", d -> d.row(-1, 0));
      Edges.bad("no ROW 6", d -> d.row(6, 0));
      Edges.bad("not 41", d -> d.row(0, 41));
    });
    term("TEXTS 0 .. 3 rows of 0 to 60 bytes, or missing (at first).", () -> {
      for (int t = 0; t <= 3; t++) {
        final int text = t;
        Edges.finds("missing at first", Edges::fresh, NOTHING, d -> d.put(text, 0, 0));
        StuckDoor d = Edges.fresh();
        Edges.is("none", d.text(t, 0), 0);
        Edges.is("no place 0", d.put(t, 0, 65), FINDING);
        Edges.is("sixty", d.text(t, 60), 60);
        Edges.is("the last byte", d.put(t, 59, 65), 1032);
        Edges.is("no place 60", d.put(t, 60, 65), FINDING);
      }
      for (int r = 0; r <= 5; r++) {
        final int row = r;
        Edges.finds("ROWS too are missing at first", Edges::fresh, NOTHING, d -> d.at(row, 0));
      }
      Edges.bad("no TEXT -1", d -> d.text(-1, 0));
      Edges.bad("no TEXT 4", d -> d.text(4, 0));
      Edges.bad("not 61", d -> d.text(0, 61));
    });
  }

  /** Every byte at a place: a FAULT there unless it is one of those that may stand; some are tested elsewhere. */
  private static void bytesAt(String before, String after, String legal, String elsewhere) {
    for (int b = 0; b < 256; b++) {
      char sign = (char) b;
      if (elsewhere.indexOf(sign) >= 0) continue;
      StuckDoor d = new StuckDoor();
      Edges.write(d, 0, before + sign + after);
      boolean isLegal = legal.indexOf(sign) >= 0;
      Edges.is("byte " + b + " behind '" + before + "'", d.fault(0), isLegal ? NONE : before.length());
    }
  }

  private static void familyTexts() {
    term("A FAMILY (without PEOPLE, SAYINGS at first) is a TEXT", () -> {
      StuckDoor d = Edges.fresh();
      Edges.is("no PEOPLE", d.count(1), 0);
      Edges.is("nobody", d.bears(0), BAD);
      Edges.is("no SAYINGS", d.count(0), 0);
      Edges.is("no SAYING", d.saying(0, 0), BAD);
    });
    term("blanks (32) ahead, between, behind as many as wanted, none within items.", () -> {
      Edges.fault("f1s11d00", NONE);
      Edges.fault("     f1     s11     s22     d00     d01     ", NONE);
      String blanks = " ".repeat(55);
      Edges.fault(blanks + "f1s11", NONE);
      Edges.fault("f1" + blanks + "s11", NONE);
      Edges.fault("f1s11" + blanks, NONE);
      Edges.fault("f 1s11", 1);
      Edges.fault("f1 2s11", 3);
      Edges.fault("f1s 11", 3);
      Edges.fault("f1s1 1", 4);
      Edges.fault("f1s11d 00", 6);
      Edges.fault("f1s11d0 0", 7);
      bytesAt("f1s11", "", " ", "shgjwpd");
      bytesAt("f1s11d00", "", " ", "d");
    });
    term("First f (102) and what PEOPLE 0, 1, .. BEAR (1 to 4 figures 0 .. 9, as many as stand together).", () -> {
      bytesAt("", "1s11", "f", " ");
      bytesAt("f", "s11", "0123456789", "");
      bytesAt("f123", "s11", "0123456789 ", "shgjwp");
      Edges.fault("fs11", 1);
      Edges.fault("f12345s11", 5);
      StuckDoor d = Edges.of("f9081s11");
      int[] due = {9, 0, 8, 1};
      for (int x = 0; x < 4; x++) Edges.is("one BEARS", d.bears(x), due[x]);
      Edges.is("one figure", Edges.of("f7s11").count(1), 1);
      Edges.is("four figures", d.count(1), 4);
    });
    term("Then SAYINGS (1 to 6; 0, 1, .. as they come): a letter, how NEAR (0 .. 9), TOPICS (0 .. 7, bits), one figure each",
      () -> {
        bytesAt("f1 ", "11", "shgjwp", " ");
        bytesAt("f1s", "1", "0123456789", "");
        bytesAt("f1s1", "", "01234567", "");
        bytesAt("f1s11", "11", "shgjwpd", " ");
        Edges.fault("f1", 2);
        Edges.fault("f1s111", 5);
        Edges.is("one", Edges.of("f1s00").count(0), 1);
        StuckDoor d = Edges.of("f1s00s11s22s33s44s97");
        Edges.is("six", d.count(0), 6);
        int[] near = {0, 1, 2, 3, 4, 9};
        int[] topics = {0, 1, 2, 3, 4, 7};
        for (int i = 0; i < 6; i++) {
          Edges.asks("NEAR of " + i, d, near[i], d.saying(i, 1));
          Edges.asks("TOPICS of " + i, d, topics[i], d.saying(i, 3));
        }
      });
    term("then STUCK ROOMS, any of them: d (100), a ROOM (two figures, 00 .. 11; unlike).", () -> {
      bytesAt("f1s11d00", "11", "d", " ");
      bytesAt("f1s11d", "1", "01", "");
      bytesAt("f1s11d0", "", "0123456789", "");
      bytesAt("f1s11d1", "", "01", "");
      Edges.is("none", Edges.of("f1s11").stuck(), 0);
      Edges.is("the first ROOM", Edges.of("f1s11d00").stuck(), 1);
      Edges.is("the last ROOM", Edges.of("f1s11d11").stuck(), 2048);
      Edges.is("all, in any order", Edges.of("f1s11d11d00d05d01d10d02d09d03d04d08d07d06").stuck(), 4095);
      Edges.fault("f1s11d00d00", 10);
    });
  }

  private static void faults() {
    term("A FAULT is the first place at which it can't go on so (a letter, a figure that is none such", () -> {
      Edges.fault("x1s11", 0);
      Edges.fault("F1s11", 0);
      Edges.fault("f1x11", 2);
      Edges.fault("f1S11", 2);
      Edges.fault("f1s11f1s11", 5);
      Edges.fault("fx", 1);
      Edges.fault("f1sx1", 3);
      Edges.fault("f1s1x", 4);
      Edges.fault("f1s18", 4);
      Edges.fault("f1s19", 4);
      Edges.fault("f1s11dx0", 6);
      Edges.fault("f1s11d0x", 7);
      Edges.fault("f1s1xs9y", 4);
      // no ROOM begins so: it can't go on at the first figure already
      Edges.fault("f1s11d20", 6);
      Edges.fault("f1s11d99", 6);
    });
    term("a second figure by which there is no such ROOM", () -> {
      Edges.fault("f1s11d11", NONE);
      for (int f = 2; f <= 9; f++) Edges.fault("f1s11d1" + f, 7);
    });
    term("or one that is told already", () -> {
      Edges.fault("f1s11d03d04d05d03", 16);
      Edges.fault("f1s11d11 d11", 11);
      Edges.fault("f1s11d01d10", NONE);
    });
    term("a fifth one of PEOPLE", () -> {
      Edges.fault("f1234s11", NONE);
      Edges.fault("f12345s11", 5);
      Edges.fault("  f123456", 7);
    });
    term("a seventh SAYING", () -> {
      Edges.fault("f1s11h11g11j11w11p11", NONE);
      Edges.fault("f1s11h11g11j11w11p11s11", 20);
      Edges.fault("f1s11h11g11j11w11p11  p", 22);
    });
    term("a SAYING behind a STUCK ROOM", () -> {
      Edges.fault("f1s11d00s11", 8);
      Edges.fault("f1s11d00 d01  w11", 14);
    });
    term("a STUCK ROOM ahead of all SAYINGS: its place", () -> {
      Edges.fault("f1d00s11", 2);
      Edges.fault("f1  d00", 4);
      Edges.fault("f1d", 2);
    });
  }

  private static void faultsAtEnds() {
    term("the TEXT's size, if its end comes too early", () -> {
      String whole = "f12 s11 d03";
      for (int n = 1; n <= whole.length(); n++) {
        boolean isWhole = n == 7 || n == 8 || n == 11;
        Edges.fault(whole.substring(0, n), isWhole ? NONE : n);
      }
      Edges.fault("  f", 3);
      Edges.fault("f12     ", 8);
      Edges.fault("f12" + " ".repeat(57), 60);
    });
    term("or there are blanks alone).", () -> {
      for (int n = 0; n <= 60; n++) {
        StuckDoor d = Edges.fresh();
        d.text(3, n);
        Edges.is(n + " blanks", d.fault(3), n);
        Edges.is(n + " blanks are no FAMILY", d.family(3), STATE);
      }
    });
  }

  private static void kinds() {
    term("KINDS of SAYINGS and letters: 0 SAYING (s, 115), 1 HINT (h, 104; a SAYING), 2 GRACE (g, 103; a SAYING), "
      + "3 JOKE (j, 106; a HINT), 4 WILL (w, 119; a GRACE), 5 SPEECH (p, 112; a HINT).", () -> {
        int[] letters = {115, 104, 103, 106, 119, 112};
        int[] parents = {0, 0, 0, 1, 2, 1};
        for (int kind = 0; kind < 6; kind++) {
          StuckDoor d = Edges.of("f9" + (char) letters[kind] + "00");
          Edges.asks("KIND", d, kind, d.saying(0, 0));
          for (int other = 1; other < 6; other++) {
            boolean isOne = other == kind || other == parents[kind];
            Edges.is(kind + " is of KIND " + other, d.mark(0, other) == FINDING ? 0 : 1, isOne ? 1 : 0);
          }
          Edges.is("HINTS", d.count(7), kind == 1 || parents[kind] == 1 ? 1 : 0);
        }
      });
  }

  private static void nears(StuckDoor d, int i, int due) {
    Edges.asks("how NEAR", d, due, d.saying(i, 2));
  }

  private static void near() {
    term("How NEAR one comes now: a SAYING as told", () -> {
      for (int told = 0; told <= 9; told++) {
        StuckDoor d = Edges.of("f9s" + told + "7");
        nears(d, 0, told);
        d.say(0, 0);
        nears(d, 0, told);
      }
    });
    term("a HINT 1 more for each time that it was said", () -> {
      StuckDoor d = Edges.of("f9h00s00");
      nears(d, 0, 0);
      for (int n = 1; n <= 4; n++) {
        d.say(0, 0);
        nears(d, 0, n);
      }
      d.say(0, 1);
      d.day();
      nears(d, 0, 4);
      nears(Edges.of("f9h90"), 0, 9);
    });
    term("a JOKE 2 less than a HINT (0 at least)", () -> {
      for (int told = 0; told <= 9; told++) {
        StuckDoor d = Edges.of("f9j" + told + "0");
        nears(d, 0, told <= 2 ? 0 : told - 2);
        d.say(0, 0);
        nears(d, 0, told + 1 <= 2 ? 0 : told + 1 - 2);
      }
      StuckDoor d = Edges.of("f9j00");
      for (int n = 0; n <= 4; n++) {
        nears(d, 0, n <= 2 ? 0 : n - 2);
        d.say(0, 0);
      }
    });
    term("a SPEECH twice a HINT", () -> {
      for (int told = 0; told <= 9; told++) {
        StuckDoor d = Edges.of("f9p" + told + "0");
        nears(d, 0, 2 * told);
        d.say(0, 0);
        nears(d, 0, 2 * told + 2);
      }
    });
    term("a GRACE half of what is told (cut)", () -> {
      int[] due = {0, 0, 1, 1, 2, 2, 3, 3, 4, 4};
      for (int told = 0; told <= 9; told++) {
        StuckDoor d = Edges.of("f9g" + told + "0");
        nears(d, 0, due[told]);
        d.say(0, 0);
        nears(d, 0, due[told]);
      }
    });
    term("a WILL 1 more than a GRACE for each TOPIC (of three) that is not settled.", () -> {
      int[] due = {0, 0, 1, 1, 2, 2, 3, 3, 4, 4};
      int[] open = {3, 2, 2, 1, 2, 1, 1, 0};
      for (int told = 0; told <= 9; told++) {
        for (int topics = 0; topics <= 7; topics++) {
          StuckDoor d = Edges.of("f9w" + told + "0s0" + topics);
          nears(d, 0, due[told] + 3);
          d.say(0, 1);
          nears(d, 0, due[told] + open[topics]);
        }
      }
    });
  }

  private static void strain() {
    term("STRAIN is 0 at first, no TOPIC is settled, nobody is OVER.", () -> {
      StuckDoor d = Edges.of(Edges.ALL);
      Edges.is("STRAIN", d.count(4), 0);
      Edges.is("TOPICS", d.count(5), 0);
      Edges.is("OVER", d.count(6), NONE);
    });
    term("Who says a SAYING: STRAIN is more by how NEAR it comes, its TOPICS are settled, it was said once more", () -> {
      StuckDoor d = Edges.of("f9s25h04s00");
      Edges.is("STRAIN", d.say(0, 0), 2);
      Edges.is("TOPICS", d.count(5), 5);
      Edges.asks("said", d, 1, d.saying(0, 4));
      Edges.is("STRAIN by 0", d.say(0, 1), 2);
      Edges.is("TOPICS stay settled", d.count(5), 5);
      Edges.is("STRAIN by one more", d.say(0, 1), 3);
      Edges.asks("said", d, 2, d.saying(1, 4));
      Edges.is("no TOPICS", d.say(0, 2), 3);
      Edges.is("TOPICS stay settled", d.count(5), 5);
    });
    term("if STRAIN is above what one BEARS then, that one is OVER (has spoken of it)", () -> {
      for (int bears = 0; bears <= 8; bears++) {
        StuckDoor d = Edges.of("f9" + bears + "s" + bears + "0s" + (bears + 1) + "0");
        d.say(1, 0);
        Edges.is("as much as one BEARS", d.count(6), NONE);
        d.undo(0);
        d.say(0, 1);
        Edges.is("another one BEARS it", d.count(6), NONE);
        d.undo(0);
        d.say(1, 1);
        Edges.is("1 above", d.count(6), 1);
      }
      StuckDoor d = Edges.of("f90s10s00");
      d.say(0, 0);
      Edges.is("who says nothing is not OVER", d.count(6), NONE);
      d.say(1, 1);
      Edges.is("who says what is not NEAR at all is, by STRAIN", d.count(6), 1);
    });
    term("then nothing is said any more.", () -> {
      for (int i = 0; i < 6; i++) {
        final int saying = i;
        Edges.refused("by another one", Edges::over, STATE, d -> d.say(0, saying));
        Edges.refused("by that one", Edges::over, STATE, d -> d.say(2, saying));
      }
      StuckDoor d = Edges.over();
      for (int n = 0; n < 9; n++) d.day();
      Edges.is("not behind DAYS either", d.say(0, 3), STATE);
    });
    term("A DAY: STRAIN is 1 less (0 at least).", () -> {
      StuckDoor d = Edges.of("f9s20");
      Edges.is("a DAY of 0", d.day(), 0);
      d.say(0, 0);
      Edges.is("a DAY of 2", d.day(), 1);
      Edges.is("a DAY of 1", d.day(), 0);
      Edges.is("a DAY of 0", d.day(), 0);
    });
    term("What is done: a SAYING, a DAY. These are DEEDS 0, 1, .. (40 at most).", () -> {
      StuckDoor d = Edges.of("f9s00");
      for (int n = 0; n < 40; n++) {
        Edges.is("DEEDS ahead", d.count(3), n);
        Edges.is("DEED " + n, n % 3 == 0 ? d.day() : d.say(0, 0), 0);
      }
      Edges.is("forty", d.count(3), 40);
      Edges.is("no SAYING more", d.say(0, 0), FULL);
      Edges.is("no DAY more", d.day(), FULL);
      Edges.is("forty still", d.count(3), 40);
      Edges.is("undone one by one", d.undo(39), 1);
      Edges.is("the fortieth again", d.day(), 0);
    });
  }

  private static void turns() {
    term("TURNS: PEOPLE by turns, from one on (behind the last one the first)", () -> {
      // only the first one BEARS it: how far that one is behind each of the others
      StuckDoor d = Edges.of("f9000s17");
      int[] due = {1, 4, 3, 2};
      for (int x = 0; x < 4; x++) Edges.is("from " + x, d.settle(x, 0), due[x]);
      StuckDoor last = Edges.of("f0009s17");
      for (int x = 0; x < 4; x++) Edges.is("the last one, from " + x, last.settle(x, 0), 4 - x);
      StuckDoor one = Edges.of("f9s01s06");
      Edges.is("one alone is behind oneself", one.settle(0, 0), 2);
    });
    term("each says one of the SAYINGS, or is silent (then it is as a DAY).", () -> {
      StuckDoor d = Edges.of("f3s30s00");
      d.say(0, 0);
      Edges.shares("silent, or what is not NEAR", d, d.rows(0, 1), 2, 1);
      Edges.shares("behind three silent ones all can be said", d, d.rows(0, 4), 17, 1);
      StuckDoor s = Edges.of("f9s37");
      Edges.is("STRAIN eases by silence", s.least(0, 3), 1);
      Edges.is("0 at least", s.least(0, 5), 0);
    });
    term("Rows of TURNS go by their first ones, then second ones, ..: silent ahead of SAYINGS, these by numbers.", () -> {
      StuckDoor silent = Edges.of("f01s00s17");
      Edges.is("silent ahead of what could be said", silent.settle(0, 0), 2);
      Edges.rowIs("silent ahead", silent, 0, NONE, 1);
      StuckDoor firsts = Edges.of("f99s06s01s01s06");
      Edges.is("by first ones", firsts.settle(0, 0), 2);
      Edges.rowIs("by first ones, then second ones", firsts, 0, 0, 1);
      StuckDoor numbers = Edges.of("f99s00s07s07");
      Edges.is("by numbers", numbers.settle(0, 0), 1);
      Edges.rowIs("by numbers", numbers, 0, 1);
    });
  }

  private static void house() {
    term("The HOUSE is three rows of four ROOMS (0 .. 11); beside one are those above, below, left, right of it.", () -> {
      StuckDoor d = Edges.fresh();
      for (int a = 0; a < 12; a++) {
        for (int b = 0; b < 12; b++) {
          int due = Math.abs(a / 4 - b / 4) + Math.abs(a % 4 - b % 4);
          Edges.is("way(" + a + ", " + b + ")", d.way(a, b), due);
        }
      }
      int[][] none = {{-1, 0}, {12, 0}, {0, -1}, {0, 12}, {Edges.MIN, 0}, {0, Edges.MAX}};
      for (int[] ab : none) Edges.bad("no such ROOM", e -> e.way(ab[0], ab[1]));
    });
    term("STUCK ones can't be gone through, into or out of.", () -> {
      StuckDoor d = Edges.of("f1s11d05");
      Edges.is("not through", d.way(4, 6), 4);
      Edges.is("not through", d.way(1, 9), 4);
      for (int a = 0; a < 12; a++) {
        Edges.is("not into", d.way(a, 5), NONE);
        Edges.is("not out of", d.way(5, a), NONE);
      }
      StuckDoor wall = Edges.of("f1s11d02d06d10");
      Edges.is("a wall", wall.way(1, 3), NONE);
      Edges.is("this side of it", wall.way(0, 9), 3);
      Edges.is("that side of it", wall.way(3, 11), 2);
    });
  }

  private static void lots() {
    term("LOTS: a number comes from the one ahead by 48271 times it modulo 2147483647, the first from a seed (1 .. 2147483646).",
      () -> {
        Edges.bad("seed 0", d -> d.lots(1, 0));
        Edges.bad("seed -1", d -> d.lots(1, -1));
        Edges.bad("seed 2147483647", d -> d.lots(1, 2147483647));
        for (int seed : new int[] {1, 2, 12345, 2147483645, 2147483646}) {
          StuckDoor d = Edges.of("f9876s11h02g34j05w10p07");
          StuckDoor twin = Edges.of("f9876s11h02g34j05w10p07");
          long lot = seed;
          for (int n = 0; n < 20; n++) {
            lot = lot * 48271 % 2147483647;
            int x = (int) (lot / 64 % 4);
            int i = (int) (lot % 6);
            if (lot / 8 % 4 != 0 && (twin.can(x) >> i & 1) == 1) twin.say(x, i);
            else twin.day();
          }
          Edges.is("STRAIN by seed " + seed, d.lots(20, seed), twin.count(4));
          Edges.same("twenty by seed " + seed, d, twin);
        }
      });
  }

  private static void calls() {
    Edges.sentence("What it is", "An object is used for at most 512 calls after it has been made", () -> {
      StuckDoor d = Edges.fresh();
      d.text(0, 5);
      String text = "f9s10";
      for (int i = 0; i < 5; i++) d.put(0, i, text.charAt(i));
      Edges.is("family", d.family(0), 1);
      for (int call = 8; call <= 511; call++) Edges.is("call " + call, call % 2 == 0 ? d.say(0, 0) : d.undo(0), 1);
      Edges.is("call 512", d.say(0, 0), 1);
    });
    term("(TURNS from one on, n 0 .. 5 at most)", () -> {
      for (int n = 0; n <= 5; n++) {
        StuckDoor d = Edges.of("f9s00");
        Edges.shares("rows of " + n, d, d.rows(0, n), 1 << n, 1);
      }
      Edges.bad("n -1", d -> d.rows(0, -1));
      Edges.bad("n 6", d -> d.rows(0, 6));
      Edges.bad("n -1", d -> d.least(0, -1));
      Edges.bad("n 6", d -> d.least(0, 6));
    });
    term("(aside)", () -> {
      Edges.tells("can", Edges::rich, 1 << 3, d -> d.can(2));
      Edges.tells("over", Edges::rich, 2 | 4 | 8, d -> d.over(0));
      Edges.tells("waits", Edges::rich, 1, d -> d.waits(1, 0));
      StuckDoor d = Edges.rich();
      StuckDoor twin = Edges.rich();
      Edges.is("talk", d.talk(3), 2);
      d.at(2, 39);
      Edges.same("talk", d, twin);
    });
  }
}
