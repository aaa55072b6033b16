import java.util.NoSuchElementException;
import java.util.Random;

/** Any arguments in any order: nothing is thrown but what mark() may throw, and the same calls answer the same. */
public final class Wild {
  private static final int[] EDGES = {Integer.MIN_VALUE, Integer.MIN_VALUE + 1, -100, -2, -1, 0, 1, 2, 3, 4, 5, 6, 7, 8, 15, 19, 20,
      23, 24, 25, 39, 40, 41, 63, 64, 99, 100, 699, 700, 701, 999, 9900, 9999, 10000, Integer.MAX_VALUE - 1, Integer.MAX_VALUE};
  private static final String[] TEXTS = {
      "",
      "mark a 99 6;mark b 0 2;mark c 50 6;mark d 9 6;mark e 10 6;mark f 49 6;shot a 1 0;shot b 2 0;shot c 3 1;shot d 4 1;shot e 5 2;"
          + "shot f 6 2;shot g 7 3;shot h 8 99;has a a 5;has h f 3;has b a 4;has c b 1;party a a 3 99;party b a 2 99;party c b 0 0;"
          + "clerk a 63;clerk b 0;cold 0 0;cold 2 9;ill 50;purse 999;seed 99999;law notice strike/day;law yield plums*9999*9999*9999;"
          + "law again not(cost-times*said)+away;",
      "ill 100;purse 0;party",
      "law again ((((((((1-((((((("};

  private final Random random;
  private final GirlShots x = new GirlShots();
  private final StringBuilder answers = new StringBuilder();

  private Wild(int seed) {
    random = new Random(seed);
  }

  public static void main(String[] args) {
    for (int seed = 0; seed < 400; seed++) {
      String first = run(seed);
      if (!first.equals(run(seed))) Due.is("run " + seed + " again", 1, 0);
    }
    Due.is("runs", 400, 400);
    Due.end();
  }

  private static String run(int seed) {
    Wild run = new Wild(seed);
    if (seed % 4 != 0) Feeder.read(run.x, TEXTS[seed % TEXTS.length]);
    for (int k = 0; k < 512; k++) {
      try {
        run.call(run.random.nextInt(40));
      } catch (RuntimeException e) {
        Due.is("run " + seed + " call " + k + " threw " + e, 1, 0);
      }
    }
    return run.answers.toString();
  }

  private int any() {
    return random.nextInt(8) == 0 ? random.nextInt() : random.nextInt(3) == 0 ? random.nextInt(4) : EDGES[random.nextInt(EDGES.length)];
  }

  private void say(long answer) {
    answers.append(answer).append(' ');
  }

  private void say(boolean answer) {
    answers.append(answer).append(' ');
  }

  private void call(int kind) {
    int a = any();
    int b = any();
    int c = any();
    if (kind < 20) calls(kind, a, b, c);
    else moreCalls(kind, a, b, c);
  }

  private void calls(int kind, int a, int b, int c) {
    switch (kind) {
      case 0: say(x.feed(a, b, c, any(), any())); break;
      case 1: if (random.nextInt(9) == 0) say(Feeder.read(x, TEXTS[random.nextInt(TEXTS.length)])); break;
      case 2: if (random.nextInt(5) == 0) say(x.text(a)); break;
      case 3: say(x.fault(a)); break;
      case 4: say(x.named(a, b)); break;
      case 5:
        try {
          say(x.mark(a, b));
        } catch (IndexOutOfBoundsException e) {
          Due.is("no such mark " + a, a >= 0 && a < x.count(0), false);
        } catch (NoSuchElementException e) {
          Due.is("no such what " + b, b >= 0 && b < 5 || a < 0 || a >= x.count(0), false);
        }
        break;
      case 6: say(x.shot(a, b)); break;
      case 7: say(x.way(a, b)); break;
      case 8: say(x.party(a, b)); break;
      case 9: say(x.clerk(a)); break;
      case 10: say(x.law(a, b, c)); break;
      case 11: say(x.plums(a, b)); break;
      case 12: say(x.move(a, b)); break;
      case 13: say(x.tell(a, b)); break;
      case 14: say(x.forget(a)); break;
      case 15: say(x.go(a)); break;
      case 16: say(x.ahead(a, b)); break;
      case 17: say(x.breaks()); break;
      case 18: say(x.agrees()); break;
      default: say(x.least(a));
    }
  }

  private void moreCalls(int kind, int a, int b, int c) {
    switch (kind) {
      case 20: say(x.order(a)); break;
      case 21: say(x.noted()); break;
      case 22: say(x.bribe(a)); break;
      case 23: say(x.rests(a, b)); break;
      case 24: say(x.rest(a, b, c)); break;
      case 25: say(x.there(a, b)); break;
      case 26: say(x.without(a)); break;
      case 27: say(x.run()); break;
      case 28: say(x.believed()); break;
      case 29: say(x.see(a, b, (c & 1) != 0)); break;
      case 30: say(x.out(a)); break;
      case 31: say(x.known(a)); break;
      case 32: say(x.struckHow(a)); break;
      case 33: say(x.chance(a, b, c)); break;
      case 34: say(x.tried(a, b, c)); break;
      case 35: say(x.undo()); break;
      case 36: say(x.keep()); break;
      case 37: say(x.back()); break;
      case 38: say(x.count(a)); break;
      default: say(x.go(a & 3));
    }
  }
}
