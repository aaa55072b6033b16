import java.util.NoSuchElementException;
import java.util.Random;

/** Chance runs of calls (the same ones each time): GirlShots and the Model answer alike. */
public final class AgainstModel {
  private static final int RUNS = 1500;
  private static final String[] SIGNS = {"+", "-", "*", "/", "<", "<=", "=", "<>", ">=", ">", " and ", " or "};
  private static final String[] NAMES = {"strike", "plums", "said", "times", "cost", "day", "away"};
  private static final String[] SCRAPS = {";", "(", ")", "not ", "mark ", "law ", "again", "abcdefg", "7", " ", "\n", "<", "=", "!", "day",
      "100", "m", "\u00ff", "purse 4;", "10000"};

  private final Random random;
  private final GirlShots x = new GirlShots();
  private final Model m = new Model();
  private final StringBuilder said = new StringBuilder();
  /** In some runs few days go by, so that much can be undone, and much is seen. */
  private final boolean still;

  private AgainstModel(int seed) {
    random = new Random(seed);
    still = seed % 5 == 0;
  }

  public static void main(String[] args) {
    int runs = args.length > 0 ? Integer.parseInt(args[0]) : RUNS;
    int from = args.length > 1 ? Integer.parseInt(args[1]) : 0;
    for (int seed = from; seed < from + runs && Due.wrong() < 5; seed++) {
      AgainstModel run = new AgainstModel(seed);
      for (int calls = 0; calls < 300; calls++) run.call();
      if (Due.wrong() > 0) {
        System.out.println("run " + seed + ": " + run.said);
        break;
      }
    }
    Due.end();
  }

  private int upTo(int most) {
    return random.nextInt(most + 1);
  }

  /** Mostly good, now and then a little or far beyond. */
  private int about(int least, int most) {
    int kind = random.nextInt(40);
    if (kind == 0) return random.nextInt();
    if (kind < 3) return random.nextBoolean() ? least - 1 : most + 1;
    return least + upTo(Math.max(0, most - least));
  }

  private String side(int depth) {
    int kind = random.nextInt(depth > 3 ? 2 : 7);
    if (kind == 0) return String.valueOf(random.nextInt(4) == 0 ? upTo(9999) : upTo(20));
    if (kind == 1) return NAMES[upTo(6)];
    if (kind == 2) return "(" + side(depth + 1) + ")";
    if (kind == 3) return "(not " + side(depth + 1) + ")";
    String joined = side(depth + 1) + SIGNS[upTo(SIGNS.length - 1)] + side(depth + 1);
    return random.nextInt(3) == 0 ? joined : "(" + joined + ")";
  }

  private String text() {
    StringBuilder t = new StringBuilder();
    int marks = 1 + upTo(5);
    int shots = 1 + upTo(7);
    int[] ways = new int[marks];
    for (int k = 0; k < marks; k++) {
      ways[k] = 2 + upTo(4);
      t.append("mark ").append((char) ('a' + k)).append(' ').append(upTo(99)).append(' ').append(ways[k]).append(';');
    }
    int spread = 1 + upTo(12);
    for (int k = 0; k < shots; k++) t.append("shot s").append((char) ('a' + k)).append(' ').append(1 + upTo(30)).append(' ').append(upTo(spread)).append(';');
    int pairs = 0;
    for (int s = 0; s < shots; s++) for (int k = 0; k < marks; k++)
      if (random.nextInt(3) > 0 && pairs++ < 20)
        t.append("has s").append((char) ('a' + s)).append(' ').append((char) ('a' + k)).append(' ').append(upTo(ways[k] - 1)).append(';');
    int parties = upTo(3);
    for (int k = 0; k < parties; k++) {
      int of = upTo(marks - 1);
      t.append("party p").append((char) ('a' + k)).append(' ').append((char) ('a' + of)).append(' ').append(upTo(ways[of] - 1)).append(' ').append(upTo(25)).append(';');
    }
    for (int k = upTo(3); k > 0; k--) t.append("clerk ").append((char) ('a' + k)).append(' ').append(upTo(63)).append(';');
    for (int k = upTo(2); k > 0; k--) {
      int first = upTo(15);
      t.append("cold ").append(first).append(' ').append(first + upTo(5)).append(';');
    }
    if (random.nextInt(2) == 0) t.append("ill ").append(upTo(100)).append(';');
    if (random.nextInt(2) == 0) t.append("purse ").append(upTo(random.nextBoolean() ? 60 : 999)).append(';');
    if (random.nextInt(2) == 0) t.append("seed ").append(upTo(99999)).append(';');
    for (String rule : new String[] {"notice", "yield", "again"})
      if (random.nextInt(2) == 0) t.append("law ").append(rule).append(' ').append(side(0)).append(';');
    return random.nextInt(3) == 0 ? spoilt(t) : t.toString();
  }

  private String spoilt(StringBuilder t) {
    int at = upTo(t.length());
    int kind = random.nextInt(4);
    if (kind == 0) t.insert(at, SCRAPS[upTo(SCRAPS.length - 1)]);
    if (kind == 1) t.delete(at, Math.min(t.length(), at + 1 + upTo(3)));
    if (kind == 2) t.setLength(at);
    if (kind == 3) {
      int from = upTo(t.length());
      int to = Math.min(t.length(), from + upTo(20));
      t.insert(at, t.substring(from, to));
    }
    return t.toString();
  }

  private void read() {
    String text = text();
    said.append("\n  text ").append(text).append('\n');
    for (int i = 0; i < text.length(); i += 20) {
      int[] n = new int[5];
      for (int k = 0; k < 20; k++) n[k / 4] = n[k / 4] << 8 | (i + k < text.length() ? text.charAt(i + k) & 255 : ' ');
      Due.is("feed", x.feed(n[0], n[1], n[2], n[3], n[4]), m.feed(n[0], n[1], n[2], n[3], n[4]));
    }
    int n = random.nextInt(20) == 0 ? about(0, 700) : Math.min(700, text.length());
    Due.is("text " + n + " of " + text, x.text(n), m.text(n));
    Due.is("fault of " + text, x.fault(0), m.fault(0));
    Due.is("place of " + text, x.fault(1), m.fault(1));
  }

  private void is(String call, long got, long want) {
    said.append(call).append(' ');
    Due.is(call, got, want);
  }

  private void is(String call, boolean got, boolean want) {
    is(call, got ? 1 : 0, want ? 1 : 0);
  }

  private void call() {
    int kind = random.nextInt(43);
    if (said.length() == 0 || kind == 0 && random.nextInt(3) == 0) {
      read();
    } else if (kind < 12) {
      state();
    } else if (kind < 24) {
      change();
    } else {
      ask();
    }
  }

  private void state() {
    int a = about(0, 5);
    int b = about(0, 4);
    switch (random.nextInt(9)) {
      case 0: is("fault " + b, x.fault(b), m.fault(b)); break;
      case 1: {
        int letters = random.nextInt(9) == 0 ? random.nextInt() : Feeder.name((random.nextBoolean() ? "" : "s") + (char) ('a' + upTo(7)));
        is("named " + b + " " + letters, x.named(b, letters), m.named(b, letters));
        break;
      }
      case 2: mark(a, b); break;
      case 3: is("shot " + a + " " + b, x.shot(a, b), m.shot(a, b)); break;
      case 4: is("way " + a + " " + b, x.way(a, b), m.way(a, b)); break;
      case 5: is("party " + b + " " + a, x.party(b, a), m.party(b, a)); break;
      case 6: is("clerk " + b, x.clerk(b), m.clerk(b)); break;
      case 7: {
        int what = about(0, 2);
        is("law " + what + " " + a + " " + b, x.law(what, a, b), m.law(what, a, b));
        break;
      }
      default: {
        int what = about(0, 14);
        is("count " + what, x.count(what), m.count(what));
      }
    }
  }

  private void mark(int a, int b) {
    long got;
    long want;
    try {
      got = x.mark(a, b);
    } catch (IndexOutOfBoundsException e) {
      got = -100;
    } catch (NoSuchElementException e) {
      got = -200;
    }
    try {
      want = m.mark(a, b);
    } catch (IndexOutOfBoundsException e) {
      want = -100;
    } catch (NoSuchElementException e) {
      want = -200;
    }
    is("mark " + a + " " + b, got, want);
  }

  private void change() {
    int a = about(0, 5);
    int b = about(0, 3);
    switch (random.nextInt(9)) {
      case 0: {
        int more = about(1, random.nextInt(5) == 0 ? 99 : 9);
        is("plums " + b + " " + more, x.plums(b, more), m.plums(b, more));
        break;
      }
      case 1: {
        int day = random.nextInt(30) == 0 ? about(9999, 9999) : about(m.count(5), m.count(5) + 9);
        is("move " + a + " " + day, x.move(a, day), m.move(a, day));
        break;
      }
      case 2: is("tell " + a + " " + b, x.tell(a, b), m.tell(a, b)); break;
      case 3: is("forget " + a, x.forget(a), m.forget(a)); break;
      case 4: {
        if (still && random.nextInt(20) > 0) return;
        int n = random.nextInt(25) == 0 ? about(0, 99) : about(0, 2);
        is("go " + n, x.go(n), m.go(n));
        break;
      }
      case 5: is("keep", x.keep(), m.keep()); break;
      case 6: if (!still || random.nextInt(9) == 0) is("back", x.back(), m.back()); break;
      default: if (!still || m.count(14) > 19 || random.nextInt(4) == 0) is("undo", x.undo(), m.undo());
    }
  }

  private void ask() {
    int n = about(0, random.nextInt(5) == 0 ? 99 : 12);
    int a = about(0, 3);
    int b = about(0, 3);
    int what = about(0, 5);
    switch (random.nextInt(20)) {
      case 0: is("ahead " + n + " " + what, x.ahead(n, what), m.ahead(n, what)); break;
      case 1: is("breaks", x.breaks(), m.breaks()); break;
      case 2: is("agrees", x.agrees(), m.agrees()); break;
      case 3: least(); break;
      case 4: is("order " + what, x.order(what), m.order(what)); break;
      case 5: is("noted", x.noted(), m.noted()); break;
      case 6: is("bribe " + a, x.bribe(a), m.bribe(a)); break;
      case 7: is("rests " + a + " " + b, x.rests(a, b), m.rests(a, b)); break;
      case 8: is("rest " + a + " " + b + " " + what, x.rest(a, b, what), m.rest(a, b, what)); break;
      case 9: is("there " + what + " " + b % 2, x.there(what, b % 2), m.there(what, b % 2)); break;
      case 10: is("without " + n, x.without(n), m.without(n)); break;
      case 11: is("run", x.run(), m.run()); break;
      case 12: is("believed", x.believed(), m.believed()); break;
      case 13: {
        int days = about(1, 40);
        boolean so = random.nextBoolean();
        is("see " + days + " " + a + " " + so, x.see(days, a, so), m.see(days, a, so));
        break;
      }
      case 14: {
        int seen = about(0, m.count(12) - 1);
        is("out " + seen, x.out(seen), m.out(seen));
        break;
      }
      case 15: {
        int by = about(-1, m.count(12));
        is("known " + by, x.known(by), m.known(by));
        break;
      }
      case 16: is("struckHow " + a, x.struckHow(a), m.struckHow(a)); break;
      case 17: {
        int seed = about(0, Integer.MAX_VALUE - 1);
        is("chance " + seed + " " + n + " " + what, x.chance(seed, n, what), m.chance(seed, n, what));
        break;
      }
      default: {
        int i = what == 2 || random.nextInt(9) == 0 ? a : 0;
        is("tried " + what + " " + i + " " + n, x.tried(what, i, n), m.tried(what, i, n));
      }
    }
  }

  /** The model goes through all rows of ways: only where these are few. */
  private void least() {
    int rows = 1;
    for (int mark = 0; mark < m.count(0); mark++) rows *= m.mark(mark, 1);
    if (rows > 3000 && random.nextInt(30) > 0) return;
    int what = about(0, 6);
    is("least " + what, x.least(what), m.least(what));
  }
}
