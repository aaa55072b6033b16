import java.util.NoSuchElementException;

/** The boundary cases of promises 6 to 39, a method each: the least and the most, what is beyond, empty, full, refused. */
public final class CallEdges {
  private static final int MIN = Integer.MIN_VALUE;
  private static final int MAX = Integer.MAX_VALUE;
  private static final String FILM = "mark hat 60 3;mark sea 20 2;shot one 10 0;shot two 20 1;shot six 5 2;"
      + "has one hat 0;has one sea 1;has two hat 2;has six hat 1;has six sea 0;";
  private static final String PARTIES = "party p hat 1 9;party q sea 0 4;";
  private static final String FULL = "mark a 9 2;mark b 9 3;mark c 9 4;mark d 9 5;mark e 9 6;mark f 9 2;shot a 1 0;shot b 2 1;shot c 3 2;shot d 4 3;"
      + "shot e 5 4;shot f 6 5;shot g 7 6;shot h 8 7;has h f 1;party a a 0 1;party b b 1 2;party c c 2 3;party d f 0 4;clerk a 1;clerk b 2;clerk c 4;clerk d 56;";

  private CallEdges() { }

  public static void main(String[] args) {
    Cases.run(CallEdges.class);
  }

  private static GirlShots told(String text) {
    return Feeder.told(text);
  }

  private static GirlShots behind(int days, String text) {
    GirlShots x = told(text);
    x.go(days);
    return x;
  }

  /** What can be seen of an object without doing anything to it. */
  private static String look(GirlShots x) {
    StringBuilder all = new StringBuilder();
    for (int what = 0; what < 15; what++) all.append(x.count(what)).append(' ');
    for (int mark = 0; mark < x.count(0); mark++) for (int what = 2; what < 5; what++) all.append(x.mark(mark, what)).append(' ');
    for (int shot = 0; shot < x.count(1); shot++) {
      for (int what = 1; what < 5; what++) all.append(x.shot(shot, what)).append(' ');
      for (int mark = 0; mark < x.count(0); mark++) all.append(x.way(shot, mark)).append(' ');
    }
    for (int party = 0; party < x.count(2); party++) for (int what = 2; what < 4; what++) all.append(x.party(party, what)).append(' ');
    return all.toString();
  }

  private static void same(String call, String before, GirlShots x) {
    Due.is("nothing comes of " + call, look(x).equals(before), true);
  }

  // Promise 6

  private static int thrown(GirlShots x, int mark, int what) {
    try {
      x.mark(mark, what);
      return 0;
    } catch (IndexOutOfBoundsException e) {
      return 1;
    } catch (NoSuchElementException e) {
      return 2;
    }
  }

  private static void edgeMarkNoSuchMark() {
    for (int mark : new int[] {-1, 2, 6, MIN, MAX}) Due.is("mark " + mark, thrown(told(FILM), mark, 0), 1);
    Due.is("of none", thrown(new GirlShots(), 0, 0), 1);
    Due.is("the first", thrown(told(FILM), 0, 0), 0);
    Due.is("the last", thrown(told(FILM), 1, 0), 0);
    Due.is("the sixth", thrown(told(FULL), 5, 4), 0);
    Due.is("the seventh", thrown(told(FULL), 6, 4), 1);
  }

  private static void edgeMarkNoSuchWhat() {
    for (int what : new int[] {-1, 5, MIN, MAX}) Due.is("what " + what, thrown(told(FILM), 1, what), 2);
    for (int what = 0; what < 5; what++) Due.is("what " + what, thrown(told(FILM), 1, what), 0);
  }

  private static void edgeMarkNoSuchMarkGoesAheadOfNoSuchWhat() {
    Due.is("both", thrown(told(FILM), 2, 5), 1);
    Due.is("both below", thrown(told(FILM), -1, -1), 1);
  }

  private static void edgeMarkSaysNothing() {
    GirlShots x = told(FILM);
    Due.is("nothing", x.mark(0, 2), -1);
    x.tell(0, 0);
    Due.is("way 0", x.mark(0, 2), 0);
    x.forget(0);
    Due.is("nothing again", x.mark(0, 2), -1);
  }

  private static void edgeMarkInFilmedShotsOnly() {
    GirlShots x = told(FILM);
    int[] hat = {0, 1, 2, 3};
    int[] sea = {0, 1, 1, 2};
    for (int day = 0; day < 4; day++) {
      Due.is("hat " + day, x.mark(0, 4), hat[day]);
      Due.is("sea " + day, x.mark(1, 4), sea[day]);
      x.go(1);
    }
  }

  // Promise 7

  private static void edgeShotNoSuchOnes() {
    GirlShots x = told(FILM);
    for (int shot : new int[] {-1, 3, 8, MIN, MAX}) Due.is("shot " + shot, x.shot(shot, 0), -1);
    for (int what : new int[] {-1, 5, MIN, MAX}) Due.is("what " + what, x.shot(2, what), -1);
    Due.is("the first", x.shot(0, 0), 10);
    Due.is("the last", x.shot(2, 0), 5);
    Due.is("the eighth", told(FULL).shot(7, 0), 8);
    Due.is("the ninth", told(FULL).shot(8, 0), -1);
  }

  private static void edgeShotNotFilmedDoesNotClash() {
    GirlShots x = told(FILM);
    x.tell(0, 1);
    x.tell(1, 0);
    for (int shot = 0; shot < 3; shot++) Due.is("shot " + shot, x.shot(shot, 3), 0);
    x = behind(2, FILM + "purse 0;");
    x.tell(0, 1);
    x.tell(1, 0);
    int[] want = {2, 1, 0};
    for (int shot = 0; shot < 3; shot++) Due.is("shot " + shot, x.shot(shot, 3), want[shot]);
    Due.is("of the filmed ones alone", x.count(10), 3);
  }

  // Promise 8

  private static void edgeWayNoSuchOnes() {
    GirlShots x = told(FILM);
    for (int shot : new int[] {-1, 3, 8, MIN, MAX}) Due.is("shot " + shot, x.way(shot, 0), -1);
    for (int mark : new int[] {-1, 2, 6, MIN, MAX}) Due.is("mark " + mark, x.way(0, mark), -1);
    Due.is("the last", told(FULL).way(7, 5), 1);
    Due.is("the last but one", told(FULL).way(7, 4), -2);
    Due.is("beyond", told(FULL).way(7, 6), -1);
    Due.is("of none", new GirlShots().way(0, 0), -1);
  }

  private static void edgeWayOfAMarkThatIsNotInIt() {
    GirlShots x = told(FILM);
    Due.is("not in it", x.way(1, 1), -2);
    Due.is("way 0", x.way(0, 0), 0);
    x.tell(1, 0);
    x.go(2);
    Due.is("filmed, not in it", x.way(1, 1), -2);
  }

  // Promise 9

  private static void edgePartyNoSuchOnes() {
    GirlShots x = told(FILM + PARTIES);
    for (int party : new int[] {-1, 2, 4, MIN, MAX}) Due.is("party " + party, x.party(party, 0), -1);
    for (int what : new int[] {-1, 4, MIN, MAX}) Due.is("what " + what, x.party(1, what), -1);
    Due.is("the fourth", told(FULL).party(3, 0), 5);
    Due.is("the fifth", told(FULL).party(4, 0), -1);
  }

  // Promise 10

  private static void edgeClerkNone() {
    for (int clerk : new int[] {-1, 4, MIN, MAX}) Due.is("clerk " + clerk, told(FULL).clerk(clerk), -1);
    Due.is("the first", told(FULL).clerk(0), 1);
    Due.is("the fourth", told(FULL).clerk(3), 56);
    Due.is("of none", told(FILM).clerk(0), -1);
    Due.is("no marks", told("clerk c 0;").clerk(0), 0);
    Due.is("marks that aren't told", told("clerk c 63;").clerk(0), 63);
  }

  // Promise 11

  private static final String LAWS = "law notice 1;law yield 2;law again 3;";

  private static void edgeLawNoSuchLaw() {
    GirlShots x = told(FILM + LAWS);
    for (int what : new int[] {-1, 3, MIN, MAX}) Due.is("what " + what, x.law(what, 0, 0), Long.MIN_VALUE);
    for (int what = 0; what < 3; what++) Due.is("what " + what, x.law(what, 0, 0), what + 1);
    for (int what = 0; what < 3; what++) Due.is("not told " + what, told(FILM).law(what, 0, 0), Long.MIN_VALUE);
    String[] rules = {"notice", "yield", "again"};
    for (int rule = 0; rule < 3; rule++) for (int what = 0; what < 3; what++)
      Due.is(rules[rule] + " alone " + what, told(FILM + "law " + rules[rule] + " 7;").law(what, 0, 0), what == rule ? 7 : Long.MIN_VALUE);
  }

  private static void edgeLawNoSuchOnes() {
    GirlShots x = told(FILM + LAWS);
    for (int shot : new int[] {-1, 3, 8, MIN, MAX}) {
      Due.is("notice in shot " + shot, x.law(0, shot, 0), Long.MIN_VALUE);
      Due.is("again of shot " + shot, x.law(2, shot, 0), Long.MIN_VALUE);
    }
    for (int mark : new int[] {-1, 2, 6, MIN, MAX}) {
      Due.is("notice of mark " + mark, x.law(0, 0, mark), Long.MIN_VALUE);
      Due.is("yield of mark " + mark, x.law(1, 0, mark), Long.MIN_VALUE);
    }
    Due.is("the last ones", x.law(0, 2, 1), 1);
  }

  private static void edgeLawTheMarkIsNotInIt() {
    GirlShots x = told(FILM + LAWS);
    Due.is("sea isn't in two", x.law(0, 1, 1), Long.MIN_VALUE);
    Due.is("hat is", x.law(0, 1, 0), 1);
  }

  private static void edgeLawWhatIsNotAskedForIsNotLookedAt() {
    GirlShots x = told(FILM + LAWS);
    for (int other : new int[] {-1, 3, 99, MIN, MAX}) {
      Due.is("yield", x.law(1, other, 1), 2);
      Due.is("again", x.law(2, 2, other), 3);
    }
    Due.is("again of a mark that isn't in it", x.law(2, 1, 1), 3);
  }

  private static void edgeLawAnError() {
    GirlShots x = told(FILM + "law notice 1/0;law yield 1/said;law again 1000*1000*1000*1001;");
    for (int what = 0; what < 3; what++) Due.is("what " + what, x.law(what, 0, 0), Long.MIN_VALUE);
    x.tell(0, 0);
    Due.is("no error now", x.law(1, 0, 0), 1);
  }

  private static void edgeLawIsNotPutTo0Or999() {
    Due.is("below 0", told(FILM + "law again 0-1;").law(2, 0, 0), -1);
    Due.is("above 999", told(FILM + "law again 1000;").law(2, 0, 0), 1000);
  }

  // Promise 12

  private static void edgePlums1To99() {
    GirlShots x = told(FILM + PARTIES);
    String before = look(x);
    for (int more : new int[] {0, -1, 100, 101, MIN, MAX, MAX - 8}) Due.is("more " + more, x.plums(0, more), -1);
    same("none", before, x);
    Due.is("1", x.plums(0, 1), 10);
    Due.is("99", x.plums(0, 99), 109);
  }

  private static void edgePlumsNoSuchParty() {
    GirlShots x = told(FILM + PARTIES);
    String before = look(x);
    for (int party : new int[] {-1, 2, 4, MIN, MAX}) Due.is("party " + party, x.plums(party, 1), -1);
    same("none", before, x);
    Due.is("the last", x.plums(1, 1), 5);
    Due.is("of none", new GirlShots().plums(0, 1), -1);
  }

  private static void edgePlumsMoreThan999() {
    GirlShots x = told("mark m 1 2;party p m 0 99;");
    for (int k = 2; k <= 10; k++) Due.is("99 more", x.plums(0, 99), 99 * k);
    String before = look(x);
    for (int more = 10; more < 100; more++) Due.is("more " + more, x.plums(0, more), -1);
    same("too many", before, x);
    Due.is("999", x.plums(0, 9), 999);
    Due.is("no more", x.plums(0, 1), -1);
    Due.is("999 are left", x.party(0, 2), 999);
  }

  private static void edgePlumsAreLeftNotGiven() {
    GirlShots x = told("mark m 1 2;party p m 0 99;");
    for (int k = 0; k < 9; k++) x.plums(0, 99);
    x.plums(0, 9);
    x.tell(0, 1);
    x.go(1);
    Due.is("998 left", x.party(0, 2), 998);
    Due.is("one more", x.plums(0, 2), -1);
    Due.is("one more", x.plums(0, 1), 999);
  }

  // Promise 13

  private static void edgeMoveToThisDayOrLater() {
    GirlShots x = behind(2, "shot s 1 5;shot t 1 0;");
    for (int day : new int[] {1, 0, -1, MIN}) Due.is("day " + day, x.move(0, day), false);
    Due.is("day", x.shot(0, 1), 5);
    Due.is("this day", x.move(0, 2), true);
    Due.is("day", x.shot(0, 1), 2);
    x.go(1);
    Due.is("filmed on it", x.shot(0, 2), 1);
  }

  private static void edgeMoveTo9999() {
    GirlShots x = told("shot s 1 5;");
    for (int day : new int[] {10000, 10001, MAX}) Due.is("day " + day, x.move(0, day), false);
    Due.is("day", x.shot(0, 1), 5);
    Due.is("9999", x.move(0, 9999), true);
    Due.is("day", x.shot(0, 1), 9999);
    Due.is("it is so", x.move(0, 9999), false);
    Due.is("9998", x.move(0, 9998), true);
    Due.is("0", x.move(0, 0), true);
  }

  private static void edgeMoveNoSuchShot() {
    GirlShots x = told(FILM);
    String before = look(x);
    for (int shot : new int[] {-1, 3, 8, MIN, MAX}) Due.is("shot " + shot, x.move(shot, 9), false);
    same("no shot", before, x);
    Due.is("the last", x.move(2, 9), true);
  }

  private static void edgeMoveFilmed() {
    GirlShots x = behind(1, FILM);
    String before = look(x);
    Due.is("filmed", x.move(0, 9), false);
    Due.is("filmed, this day", x.move(0, 1), false);
    same("filmed", before, x);
  }

  private static void edgeMoveItIsSo() {
    GirlShots x = told(FILM);
    Due.is("it is so", x.move(1, 1), false);
    Due.is("nothing to undo", x.count(14), 0);
    Due.is("another day", x.move(1, 2), true);
    Due.is("it is so", x.move(1, 2), false);
    Due.is("one to undo", x.count(14), 1);
  }

  // Promise 14, 15

  private static void edgeTellWaysOfTheMark() {
    GirlShots x = told(FULL);
    int[] ways = {2, 3, 4, 5, 6, 2};
    for (int mark = 0; mark < 6; mark++) {
      for (int way : new int[] {-1, ways[mark], 6, MIN, MAX}) Due.is(mark + " " + way, x.tell(mark, way), false);
      Due.is("nothing", x.mark(mark, 2), -1);
      Due.is("the last", x.tell(mark, ways[mark] - 1), true);
      Due.is("the first", x.tell(mark, 0), true);
      Due.is("says", x.mark(mark, 2), 0);
    }
  }

  private static void edgeTellNoSuchMark() {
    GirlShots x = told(FILM);
    String before = look(x);
    for (int mark : new int[] {-1, 2, 6, MIN, MAX}) Due.is("mark " + mark, x.tell(mark, 0), false);
    same("no mark", before, x);
  }

  private static void edgeTellItIsSo() {
    GirlShots x = told(FILM);
    x.tell(0, 0);
    Due.is("it is so", x.tell(0, 0), false);
    Due.is("one to undo", x.count(14), 1);
  }

  private static void edgeTellFromNowOnOnly() {
    GirlShots x = behind(1, FILM);
    x.tell(0, 2);
    Due.is("what is filmed stays", x.way(0, 0), 0);
    Due.is("it clashes", x.shot(0, 3), 1);
  }

  private static void edgeForgetNoSuchMark() {
    GirlShots x = told(FILM);
    x.tell(0, 1);
    String before = look(x);
    for (int mark : new int[] {-1, 2, 6, MIN, MAX}) Due.is("mark " + mark, x.forget(mark), false);
    same("no mark", before, x);
  }

  private static void edgeForgetItIsSo() {
    GirlShots x = told(FILM);
    Due.is("nothing said", x.forget(0), false);
    x.tell(0, 0);
    Due.is("forgotten", x.forget(0), true);
    Due.is("it is so", x.forget(0), false);
    Due.is("two to undo", x.count(14), 2);
  }

  // Promise 16

  private static void edgeGo0To99() {
    GirlShots x = told(FILM);
    String before = look(x);
    for (int n : new int[] {-1, 100, 101, MIN, MAX}) Due.is("go " + n, x.go(n), -1);
    same("no such number", before, x);
    Due.is("0", x.go(0), 0);
    same("no days", before, x);
    Due.is("1", x.go(1), 1);
    Due.is("99", x.go(99), 100);
  }

  private static GirlShots at9801(String text) {
    GirlShots x = told(text);
    for (int k = 0; k < 99; k++) x.go(99);
    return x;
  }

  private static void edgeGoBehind9900() {
    GirlShots x = at9801("");
    Due.is("9801", x.count(5), 9801);
    Due.is("9900 at once", x.go(99), 9900);
    for (int n : new int[] {1, 2, 99}) Due.is("behind: " + n, x.go(n), -1);
    Due.is("none goes by", x.count(5), 9900);
    Due.is("0", x.go(0), 9900);
    x = at9801("");
    x.go(50);
    Due.is("one too many", x.go(50), -1);
    Due.is("none goes by", x.count(5), 9851);
    Due.is("to 9900", x.go(49), 9900);
  }

  private static void edgeAskedOn9900() {
    GirlShots x = at9801("mark m 9 3;shot s 9 99;shot t 9 98;shot u 5 97;has s m 1;has t m 2;law yield day>9918;party p m 2 0;");
    x.go(99);
    x.tell(0, 1);
    Due.is("filmed", x.count(6), 3);
    Due.is("ahead", x.ahead(99, 2), 1);
    Due.is("agrees", x.agrees(), 1);
    Due.is("order", x.order(4), 1);
    Due.is("bribe", x.bribe(0), 20);
    Due.is("without", x.without(99), 0);
    Due.is("chance", x.chance(1, 99, 1), 0);
    Due.is("tried", x.tried(3, 0, 99), 1);
    Due.is("day", x.count(5), 9900);
  }

  private static void edgeMoveOn9900() {
    GirlShots x = told("shot s 1 5;");
    x.move(0, 9999);
    for (int k = 0; k < 100; k++) x.go(99);
    Due.is("9900", x.count(5), 9900);
    Due.is("past", x.move(0, 9899), false);
    Due.is("beyond what can go by", x.ahead(99, 0), 0);
    Due.is("today", x.move(0, 9900), true);
    Due.is("filmed ahead", x.ahead(1, 0), 1);
    Due.is("the last day asked", x.move(0, 9998), true);
    Due.is("not in 98", x.ahead(98, 0), 0);
    Due.is("in 99", x.ahead(99, 0), 1);
  }

  // Promise 17

  private static void edgeAhead0To99() {
    GirlShots x = told(FILM);
    for (int n : new int[] {-1, 100, MIN, MAX}) for (int what = 0; what < 5; what++) Due.is("n " + n, x.ahead(n, what), -1);
    for (int what : new int[] {-1, 5, MIN, MAX}) Due.is("what " + what, x.ahead(1, what), -1);
    int[] now = {0, 0, 0, 99, 0};
    for (int what = 0; what < 5; what++) Due.is("now " + what, x.ahead(0, what), now[what]);
  }

  private static void edgeAhead99IsTheLast() {
    GirlShots x = behind(1, "shot s 1 99;shot t 1 98;");
    Due.is("97 days", x.ahead(97, 0), 0);
    Due.is("98 days", x.ahead(98, 0), 1);
    Due.is("99 days", x.ahead(99, 0), 2);
  }

  private static void edgeAheadHowManyMore() {
    GirlShots x = behind(4, FILM);
    Due.is("filmed so far", x.count(6), 3);
    Due.is("changed so far", x.count(7) > 0, true);
    for (int what = 0; what < 3; what++) Due.is("no more " + what, x.ahead(9, what), 0);
    x.tell(0, 2);
    Due.is("again more", x.ahead(1, 2), 1);
    x.go(1);
    Due.is("again so far", x.count(8) > 0, true);
    Due.is("one again more", x.ahead(1, 2), 1);
    Due.is("now", x.ahead(0, 2), 0);
  }

  private static void edgeAheadClashesOfEachMark() {
    GirlShots x = behind(1, "mark m 9 2;mark n 9 2;shot s 9 0;shot t 9 0;shot u 9 9;has s m 0;has s n 0;has t m 0;has u m 0;purse 0;");
    x.tell(0, 1);
    x.tell(1, 1);
    Due.is("three", x.ahead(0, 4), 3);
    Due.is("three", x.count(10), 3);
    x.tell(1, 0);
    Due.is("two", x.ahead(5, 4), 2);
  }

  // Promise 18

  private static void edgeBreaksOfTheLastPair() {
    String eight = "mark m 9 2;" + "shot a 1 0;shot b 1 0;shot c 1 0;shot d 1 0;shot e 1 0;shot f 1 0;shot g 1 0;shot h 1 0;";
    Due.is("g and h", behind(1, eight + "has g m 0;has h m 1;").breaks(), 1);
    Due.is("a and b", behind(1, eight + "has a m 0;has b m 1;").breaks(), 1);
    Due.is("h and a", behind(1, eight + "has h m 0;has a m 1;").breaks(), 0);
    Due.is("a and c", behind(1, eight + "has a m 0;has c m 1;").breaks(), 0);
    Due.is("alike", behind(1, eight + "has a m 1;has b m 1;").breaks(), 0);
    Due.is("all seven", behind(1, eight + "has a m 0;has b m 1;has c m 0;has d m 1;has e m 0;has f m 1;has g m 0;has h m 1;").breaks(), 7);
    Due.is("not yet", told(eight + "has a m 0;has b m 1;").breaks(), 0);
  }

  private static void edgeBreaksOfBothFilmedOnly() {
    for (int first = 0; first < 2; first++) for (int second = 0; second < 2; second++)
      Due.is(first + " " + second, behind(1, "mark m 9 2;shot a 1 " + first + ";shot b 1 " + second + ";has a m 0;has b m 1;").breaks(), first + second == 0 ? 1 : 0);
  }

  private static void edgeBreaksThoughSheSaysNothing() {
    GirlShots x = behind(1, "mark m 9 2;shot a 1 0;shot b 1 0;has a m 0;has b m 1;");
    Due.is("nothing said", x.mark(0, 2), -1);
    Due.is("one", x.breaks(), 1);
  }

  // Promise 19

  private static void edgeAgreesNow() {
    Due.is("nothing to film", new GirlShots().agrees(), 0);
    Due.is("marks alone", told("mark m 9 2;").agrees(), 0);
    Due.is("all filmed", behind(1, "shot s 1 0;").agrees(), 0);
    Due.is("not filmed", told("shot s 1 0;").agrees(), 1);
  }

  private static void edgeAgreesIn99() {
    Due.is("99", told("shot s 1 98;").agrees(), 99);
    Due.is("not by then", told("shot s 1 99;").agrees(), -2);
    Due.is("one later", behind(1, "shot s 1 99;").agrees(), 99);
  }

  private static void edgeAgreesNotWithAClash() {
    GirlShots x = behind(1, "mark m 9 2;shot s 9 0;has s m 0;purse 8;");
    x.tell(0, 1);
    Due.is("it clashes", x.agrees(), -2);
    x.tell(0, 0);
    Due.is("it doesn't", x.agrees(), 0);
    x = behind(1, "mark m 9 2;shot s 9 0;has s m 0;purse 9;");
    x.tell(0, 1);
    Due.is("behind one day", x.agrees(), 1);
  }

  // Promise 20

  private static void edgeLeastNotSoMany() {
    GirlShots x = told(FILM);
    for (int what = 2; what < 6; what++) Due.is("what " + what, x.least(what), -2);
    for (int what = 0; what < 2; what++) Due.is("what " + what, x.least(what), 0);
    for (int what = 0; what < 6; what++) Due.is("of six " + what, told(FULL).least(what), 0);
    for (int what = 0; what < 6; what++) Due.is("of none " + what, new GirlShots().least(what), -2);
    Due.is("cost of none", new GirlShots().least(6), 0);
  }

  private static void edgeLeastAnotherWhat() {
    for (int what : new int[] {-1, 7, MIN, MAX}) {
      Due.is("what " + what, told(FILM).least(what), -1);
      Due.is("of none " + what, new GirlShots().least(what), -1);
    }
  }

  private static void edgeLeastOfSeveralTheFirst() {
    GirlShots x = behind(1, "mark m 9 6;mark n 9 6;shot s 9 0;shot t 9 0;has s m 4;has t m 3;has s n 0;has t n 1;purse 0;");
    Due.is("m", x.least(0), 3);
    Due.is("n", x.least(1), 1);
    Due.is("cost", x.least(6), 9);
  }

  private static void edgeLeastOfTheLastWays() {
    GirlShots x = behind(1, "mark a 9 6;mark b 9 6;mark c 9 6;mark d 9 6;mark e 9 6;mark f 9 6;shot s 99 0;has s a 5;has s b 5;has s c 5;has s d 5;has s e 5;has s f 5;");
    for (int what = 0; what < 6; what++) Due.is("what " + what, x.least(what), 5);
    Due.is("cost", x.least(6), 0);
  }

  private static void edgeLeastAShotCostsOnce() {
    GirlShots x = behind(1, "mark m 9 2;mark n 9 2;shot s 7 0;shot t 9 0;shot u 5 0;has s m 0;has s n 0;has t m 1;has t n 1;has u m 1;");
    Due.is("m", x.least(0), 1);
    Due.is("n", x.least(1), 1);
    Due.is("cost", x.least(6), 7);
  }

  private static void edgeLeastWhateverSheSays() {
    GirlShots x = behind(1, "mark m 9 2;shot s 9 0;has s m 1;purse 0;");
    x.tell(0, 0);
    Due.is("way", x.least(0), 1);
    Due.is("cost", x.least(6), 0);
    Due.is("she says what she said", x.mark(0, 2), 0);
  }

  private static void edgeLeastOfAll() {
    GirlShots x = behind(1, "mark m 9 6;shot a 99 0;shot b 99 0;shot c 99 0;shot d 99 0;shot e 99 0;shot f 99 0;shot g 99 0;shot h 98 0;"
        + "has a m 0;has b m 1;has c m 2;has d m 3;has e m 4;has f m 5;has g m 5;has h m 4;");
    Due.is("way", x.least(0), 5);
    Due.is("cost", x.least(6), 99 * 5 + 98);
  }

  // Promise 21

  private static final String CHANGING = "mark m 99 3;";

  private static void edgeOrderNotSoMany() {
    for (int shots = 0; shots <= 4; shots++) {
      StringBuilder text = new StringBuilder();
      for (int k = 0; k < shots; k++) text.append("shot ").append((char) ('a' + k)).append(" 1 9;");
      for (int what = 0; what < 4; what++) Due.is(shots + " shots " + what, told(text.toString()).order(what), what < shots ? what : -2);
      Due.is("sum", told(text.toString()).order(4), 0);
    }
  }

  private static void edgeOrderAnotherWhat() {
    for (int what : new int[] {-1, 5, MIN, MAX}) {
      Due.is("what " + what, told(FILM).order(what), -1);
      Due.is("of none " + what, new GirlShots().order(what), -1);
    }
  }

  private static void edgeOrderOfTheFirstFour() {
    GirlShots x = told(FULL);
    for (int what = 0; what < 4; what++) Due.is("what " + what, x.order(what), what);
    x.go(1);
    for (int what = 0; what < 4; what++) Due.is("behind a day " + what, x.order(what), what + 1);
    x.go(6);
    Due.is("one", x.order(0), 7);
    Due.is("no second one", x.order(1), -2);
    x.go(1);
    Due.is("none", x.order(0), -2);
  }

  private static void edgeOrderTheLastRow() {
    // each mark is noticed in the first one of its two shots alone: only where that one comes later nothing is changed
    String text = "mark m 1 2;mark n 2 2;mark o 3 2;shot a 1 9;shot b 2 9;shot c 3 9;shot d 4 9;has a m 0;has b m 1;has b n 0;has c n 1;has c o 0;has d o 1;"
        + "law notice strike=cost;";
    GirlShots x = told(text + "purse 0;");
    for (int what = 0; what < 4; what++) Due.is("place " + what, x.order(what), 3 - what);
    Due.is("sum", x.order(4), 0);
    Due.is("filmed again instead", told(text + "purse 99;").order(4), 3);
    for (int what = 0; what < 4; what++) Due.is("all alike: the first, place " + what, told(text + "purse 99;").order(what), what);
  }

  private static void edgeOrderFromThisDayOn() {
    String text = CHANGING + "shot s 1 50;shot t 1 50;shot u 1 50;has s m 0;has t m 1;has u m 1;purse 0;cold 4 4;";
    int[][] rows = {{0, 1, 2}, {0, 2, 1}, {1, 0, 2}, {1, 2, 0}, {2, 0, 1}, {2, 1, 0}};
    int[] best = rows[0];
    int fewest = 9;
    for (int[] row : rows) {
      GirlShots y = behind(3, text);
      for (int k = 0; k < 3; k++) y.move(row[k], 3 + k);
      int sum = y.ahead(20, 1) + y.ahead(20, 2);
      if (sum < fewest) best = row;
      fewest = Math.min(fewest, sum);
    }
    GirlShots x = behind(3, text);
    for (int k = 0; k < 3; k++) Due.is("place " + k, x.order(k), best[k]);
    Due.is("sum", x.order(4), fewest);
    Due.is("days stay", x.shot(0, 1), 50);
  }

  private static void edgeOrderIn20Days() {
    for (int day = 17; day < 24; day++) {
      GirlShots x = behind(1, CHANGING + "shot a 1 99;shot b 1 99;shot c 1 99;shot d 1 99;shot z 1 " + day + ";has z m 1;purse 0;");
      x.tell(0, 0);
      Due.is("z on day " + day, x.order(4), day < 21 ? 1 : 0);
    }
  }

  private static void edgeOrderCountsWhatComesMore() {
    GirlShots x = behind(2, CHANGING + "shot a 1 0;shot b 1 0;shot c 1 50;has a m 0;has b m 1;");
    Due.is("changed so far", x.count(7), 1);
    Due.is("none more", x.order(4), 0);
    Due.is("none more", x.order(0), 2);
  }

  private static void edgeOrderCountsWhatIsAgainMore() {
    GirlShots x = behind(2, "mark m 9 3;shot a 1 0;shot b 1 0;shot c 1 50;has a m 0;has b m 1;");
    x.tell(0, 2);
    x.go(1);
    Due.is("again so far", x.count(8), 1);
    Due.is("one more", x.order(4), 1);
    x.go(1);
    Due.is("again so far", x.count(8), 2);
    Due.is("none more", x.order(4), 0);
  }

  private static void edgeOrderAskedTwice() {
    String text = "mark m 1 2;shot a 1 9;shot b 2 9;has a m 0;has b m 1;law notice strike=cost;purse 0;";
    GirlShots x = told(text);
    Due.is("b is first", x.order(0), 1);
    Due.is("no change", x.order(4), 0);
    x.tell(0, 0);
    Due.is("now b is changed whenever", x.order(4), 1);
    Due.is("of several the first", x.order(0), 0);
    x.undo();
    Due.is("b is first", x.order(0), 1);
  }

  private static void edgeLeastByTrialOfAllWays() {
    for (int film = 0; film < 12; film++) {
      StringBuilder text = new StringBuilder();
      for (int m = 0; m < 6; m++) text.append("mark ").append((char) ('a' + m)).append(" 0 ").append(film < 6 ? 3 : 6).append(';');
      for (int s = 0; s < 8; s++) text.append("shot ").append((char) ('a' + s)).append(' ').append(1 + (film * 13 + s * s * 7) % 29).append(' ').append(s < 7 ? 0 : 1).append(';');
      for (int k = 0; k < 20; k++)
        text.append("has ").append((char) ('a' + k % 8)).append(' ').append((char) ('a' + (k % 8 * 5 + k / 8 * (1 + film % 2)) % 6)).append(' ').append((k * k + film) % (film < 6 ? 3 : 6)).append(';');
      GirlShots x = behind(1, text.toString());
      leastByTrial(x, film < 6 ? 3 : 6, text.toString());
    }
  }

  /** Goes through all ways of six marks. */
  private static void leastByTrial(GirlShots x, int ways, String text) {
    int[] is = new int[48];
    for (int k = 0; k < 48; k++) is[k] = x.shot(k / 6, 2) == 1 ? x.way(k / 6, k % 6) : -2;
    int[] cost = new int[8];
    for (int s = 0; s < 8; s++) cost[s] = x.shot(s, 0);
    int best = -1;
    int fewest = 0;
    for (int row = 0; row < (int) Math.pow(ways, 6); row++) {
      int sum = 0;
      for (int s = 0; s < 8; s++) {
        boolean clash = false;
        for (int m = 0, part = row; m < 6; m++, part /= ways) clash |= is[s * 6 + 5 - m] >= 0 && is[s * 6 + 5 - m] != part % ways;
        sum += clash ? cost[s] : 0;
      }
      if (best < 0 || sum < fewest) {
        best = row;
        fewest = sum;
      }
    }
    Due.is("cost of " + text, x.least(6), fewest);
    for (int m = 5; m >= 0; m--, best /= ways) Due.is("way " + m + " of " + text, x.least(m), best % ways);
  }

  private static void edgeLeastAskedTwice() {
    GirlShots x = told("mark m 9 3;shot s 5 0;shot t 9 1;has s m 2;has t m 1;purse 0;");
    Due.is("nothing filmed", x.least(0) * 100 + x.least(6), 0);
    x.go(1);
    Due.is("s alone", x.least(0) * 100 + x.least(6), 200);
    x.go(1);
    Due.is("t costs more", x.least(0) * 100 + x.least(6), 105);
    Feeder.read(x, "mark m 9 3;");
    Due.is("another text", x.least(0) * 100 + x.least(6), 0);
  }

  // Promise 22

  private static void edgeNotedByNone() {
    Due.is("no clerks", told(FILM).noted(), -2);
    Due.is("sea by none", told(FILM + "clerk c 1;clerk d 61;").noted(), -2);
    Due.is("no marks", told("clerk c 1;").noted(), 0);
    Due.is("no marks, no clerks", new GirlShots().noted(), 0);
  }

  private static void edgeNotedByAllFour() {
    Due.is("all four", told(FULL).noted(), 15);
    Due.is("the sixth mark", told("mark a 1 2;mark b 1 2;mark c 1 2;mark d 1 2;mark e 1 2;mark f 1 2;clerk a 31;").noted(), -2);
    Due.is("all six", told("mark a 1 2;mark b 1 2;mark c 1 2;mark d 1 2;mark e 1 2;mark f 1 2;clerk a 31;clerk b 63;").noted(), 2);
  }

  private static void edgeNotedOfSeveralTheLeast() {
    Due.is("one of four", told(FILM + "clerk a 3;clerk b 3;clerk c 3;clerk d 3;").noted(), 1);
    Due.is("two of four", told(FILM + "clerk a 0;clerk b 1;clerk c 2;clerk d 1;").noted(), 6);
    Due.is("fewer ahead of less", told(FILM + "clerk a 1;clerk b 2;clerk c 0;clerk d 3;").noted(), 8);
  }

  // Promise 23

  private static void edgeBribeNoSuchParty() {
    for (int party : new int[] {-1, 2, 4, MIN, MAX}) Due.is("party " + party, told(FILM + PARTIES).bribe(party), -1);
    Due.is("of none", new GirlShots().bribe(0), -1);
  }

  private static void edgeBribe0() {
    GirlShots x = told("mark m 99 2;party p m 1 50;law yield 0;");
    Due.is("nothing said", x.bribe(0), -2);
    x.tell(0, 0);
    Due.is("never", x.bribe(0), -2);
    x.tell(0, 1);
    Due.is("she says it", x.bribe(0), 0);
  }

  private static void edgeBribe20Days() {
    for (int wanted = 1; wanted <= 22; wanted++) {
      GirlShots x = told("mark m 9 2;party p m 1 0;law yield plums>=" + wanted + ";");
      x.tell(0, 0);
      Due.is("plums " + wanted, x.bribe(0), wanted <= 20 ? wanted : -2);
      Due.is("left", x.party(0, 2), 0);
    }
  }

  private static void edgeBribeBehind20Days() {
    String text = "mark m 9 2;party p m 1 0;cold 0 ";
    int[] want = {1, 1, -2, -2};
    for (int last = 17; last <= 20; last++) {
      GirlShots x = told(text + last + ";");
      x.tell(0, 0);
      Due.is("away up to " + last, x.bribe(0), want[last - 17]);
    }
  }

  private static void edgeBribeWithMoreLeftThanItTakes() {
    GirlShots x = told("mark m 35 2;party p m 1 9;");
    x.plums(0, 99);
    x.tell(0, 0);
    Due.is("four", x.bribe(0), 4);
    Due.is("left", x.party(0, 2), 108);
  }

  private static void edgeBribeTheFewestNotTheFirstFromAbove() {
    // the other one gives its only plum for the last word but with two plums of p's
    GirlShots x = told("mark m 0 3;party p m 1 9;party q m 2 2;");
    x.tell(0, 0);
    Due.is("the third plum is the last word", x.bribe(0), 3);
  }

  // Promise 24, 25

  private static GirlShots bidders(int one, int other) {
    return told("mark m 9 2;party p m 0 " + one + ";party q m 1 " + other + ";");
  }

  private static void edgeRestsNoSuchParties() {
    for (int no : new int[] {-1, 2, 4, MIN, MAX}) {
      Due.is("one " + no, bidders(9, 9).rests(no, 0), -1);
      Due.is("other " + no, bidders(9, 9).rests(0, no), -1);
      Due.is("one " + no, bidders(9, 9).rest(no, 0, 0), -1);
      Due.is("other " + no, bidders(9, 9).rest(0, no, 0), -1);
    }
  }

  private static void edgeRestsAlike() {
    for (int party = 0; party < 2; party++) {
      Due.is("alike", bidders(9, 0).rests(party, party), -1);
      Due.is("alike", bidders(9, 0).rest(party, party, 0), -1);
    }
  }

  private static void edgeRestBelow0() {
    for (int k : new int[] {-1, MIN}) {
      Due.is("k " + k, bidders(9, 0).rest(0, 1, k), -1);
      Due.is("k " + k + " without rests", bidders(9, 2).rest(0, 1, k), -1);
    }
  }

  private static void edgeRestNoSoMany() {
    Due.is("the first", bidders(9, 0).rest(0, 1, 0), 10);
    for (int k : new int[] {1, 24, 25, 26, MAX}) Due.is("k " + k, bidders(9, 0).rest(0, 1, k), -2);
    Due.is("none at all", bidders(9, 2).rest(0, 1, 0), -2);
  }

  private static void edgeRestNoneGoesAheadOfMinus2() {
    Due.is("no party", bidders(9, 0).rest(0, 2, 99), -1);
    Due.is("alike", bidders(9, 0).rest(1, 1, 99), -1);
  }

  private static void edgeBidsNoMoreThanItHasLeft() {
    int[][] rests = {{0, 0, 1, 0}, {1, 0, 1, 10}, {0, 1, 1, 1}, {1, 1, 1, 11}, {2, 1, 1, 20}, {1, 2, 1, 2}, {2, 2, 1, 22}, {3, 2, 0, -2}, {3, 0, 1, 10}};
    for (int[] row : rests) {
      GirlShots x = bidders(row[0], row[1]);
      int got = x.rests(0, 1);
      int first = x.rest(0, 1, 0);
      int[] want = rests(row[0], row[1]);
      Due.is(row[0] + " " + row[1] + " rests", got, want[0]);
      Due.is(row[0] + " " + row[1] + " first", first, want[1]);
    }
  }

  /** How many rests, and the first one, by the words of the document alone. */
  private static int[] rests(int left, int otherLeft) {
    int count = 0;
    int first = -2;
    for (int a = 4; a >= 0; a--) for (int b = 4; b >= 0; b--) {
      if (a > left || b > otherLeft) continue;
      boolean rest = true;
      for (int c = 0; c <= 4; c++) {
        if (c <= left && has(c, b) > has(a, b)) rest = false;
        if (c <= otherLeft && has(c, a) > has(b, a)) rest = false;
      }
      if (rest) {
        count++;
        first = 10 * a + b;
      }
    }
    return new int[] {count, first};
  }

  private static int has(int gives, int other) {
    if (gives > other) return 10 - gives;
    return gives == other ? 4 - gives : -gives;
  }

  private static void edgeBids4AtMost() {
    for (int one = 3; one <= 6; one++) for (int other = 3; other <= 6; other++) {
      int[] want = rests(one, other);
      Due.is(one + " " + other, bidders(one, other).rests(0, 1), want[0]);
      Due.is(one + " " + other, bidders(one, other).rest(0, 1, 0), want[1]);
      Due.is(one + " " + other + " as with four", bidders(one, other).rests(0, 1), bidders(Math.min(4, one), Math.min(4, other)).rests(0, 1));
    }
  }

  private static void edgeBidsOfWhatIsLeftNow() {
    GirlShots x = bidders(9, 0);
    Due.is("10", x.rest(0, 1, 0), 10);
    x.plums(1, 2);
    Due.is("none", x.rests(0, 1), 0);
    x.undo();
    Due.is("10", x.rest(0, 1, 0), 10);
    Due.is("the first one's ahead", x.rest(1, 0, 0), 1);
  }

  // Promise 26

  private static void edgeThere0To6() {
    GirlShots x = told("ill 1;");
    for (int n : new int[] {-1, 7, MIN, MAX}) for (int what = 0; what < 2; what++) Due.is("n " + n, x.there(n, what), -1);
    for (int what : new int[] {-1, 2, MIN, MAX}) Due.is("what " + what, x.there(1, what), -1);
    Due.is("99 to the 6", x.there(6, 0), 941480149401L);
    Due.is("100 to the 6", x.there(6, 1), 1000000000000L);
    Due.is("no days", x.there(0, 0), 1);
    Due.is("no days", x.there(0, 1), 1);
  }

  private static void edgeThereNeverAndAlways() {
    for (int n = 0; n <= 6; n++) {
      Due.is("ill 100: above", told("ill 100;").there(n, 0), n == 0 ? 1 : 0);
      Due.is("ill 100: below", told("ill 100;").there(n, 1), 1);
      Due.is("ill 0: above", told("ill 0;").there(n, 0), 1);
      Due.is("ill 0: below", told("ill 0;").there(n, 1), 1);
    }
  }

  private static void edgeThereInLeastTerms() {
    for (int ill = 0; ill <= 100; ill++) {
      GirlShots x = told("ill " + ill + ";");
      long above = 1;
      long below = 1;
      for (int n = 0; n <= 6; n++) {
        Due.is("the same part: " + ill + " " + n, x.there(n, 0) * below == x.there(n, 1) * above, true);
        Due.is("in least terms: " + ill + " " + n, common(x.there(n, 0), x.there(n, 1)), 1);
        above *= 100 - ill;
        below *= 100;
      }
    }
  }

  private static long common(long a, long b) {
    return b == 0 ? a : common(b, a % b);
  }

  private static void edgeThereOutOfColds() {
    Due.is("in a cold", told("ill 25;cold 0 9;").there(2, 0), 9);
    Due.is("in a cold", told("ill 25;cold 0 9;").there(2, 1), 16);
    Due.is("cold alone", told("cold 0 99;").there(6, 0), 1);
  }

  // Promise 27

  private static void edgeWithout0To99() {
    GirlShots x = told(FILM);
    for (int n : new int[] {-1, 100, MIN, MAX}) Due.is("n " + n, x.without(n), -1);
    Due.is("0", x.without(0), 0);
    GirlShots y = behind(1, "mark m 9 2;shot s 9 99;shot t 9 99;has s m 0;has t m 1;");
    Due.is("98", y.without(98), 0);
    Due.is("99", y.without(99), 1);
  }

  private static void edgeWithoutHerNow() {
    GirlShots x = behind(2, FILM + "purse 0;");
    x.tell(0, 1);
    x.tell(1, 0);
    Due.is("clashes and breaks now", x.without(0), x.count(10) + x.breaks());
  }

  private static void edgeWithoutHerNothingIsNoticedOrGiven() {
    GirlShots x = told("mark m 99 3;shot s 9 0;shot t 9 1;has s m 0;has t m 1;party p m 2 9;");
    Due.is("a break", x.without(9), 1);
    x.tell(0, 0);
    Due.is("again, though", x.without(9), 0);
    x = told("mark m 99 3;shot s 9 0;shot t 9 1;has s m 0;has t m 1;party p m 2 9;purse 0;");
    x.tell(0, 0);
    Due.is("a break and a clash", x.without(9), 2);
    Due.is("days stay", x.count(5), 0);
  }

  // Promise 28

  private static void edgeRunOfNoneAndOfAll() {
    String eight = "mark m 9 2;shot a 1 0;shot b 1 0;shot c 1 0;shot d 1 0;shot e 1 0;shot f 1 0;shot g 1 0;shot h 1 0;";
    Due.is("none", told(eight).run(), 0);
    Due.is("none at all", new GirlShots().run(), 0);
    Due.is("all", behind(1, eight).run(), 8);
    Due.is("a break at the end", behind(1, eight + "has g m 0;has h m 1;").run(), 7);
    Due.is("a break at the beginning", behind(1, eight + "has a m 0;has b m 1;").run(), 7);
    Due.is("a break amid", behind(1, eight + "has d m 0;has e m 1;").run(), 4);
    Due.is("breaks all along", behind(1, eight + "has a m 0;has b m 1;has c m 0;has d m 1;has e m 0;has f m 1;has g m 0;has h m 1;").run(), 1);
  }

  private static void edgeRunStopsAtWhatIsNotFilmed() {
    Due.is("the last three", behind(1, "shot a 1 0;shot b 1 0;shot c 1 9;shot d 1 0;shot e 1 0;shot f 1 0;").run(), 3);
    Due.is("the first two", behind(1, "shot a 1 0;shot b 1 0;shot c 1 9;shot d 1 0;").run(), 2);
    Due.is("the last", behind(1, "shot a 1 9;shot b 1 0;").run(), 1);
  }

  private static void edgeRunNotFilmedDoesNotBreak() {
    Due.is("b isn't filmed", behind(1, "mark m 9 2;shot a 1 0;shot b 1 9;shot c 1 0;shot d 1 0;has a m 0;has c m 1;has d m 1;").run(), 2);
  }

  // Promise 29

  private static void edgeBelievedNobody() {
    GirlShots x = told("mark m 9 3;party p m 0 1;party q m 1 1;party r m 2 1;party s m 0 1;");
    Due.is("nothing said", x.believed(), 0);
    x.tell(0, 0);
    Due.is("p and s", x.believed(), 9);
    x.tell(0, 1);
    Due.is("q", x.believed(), 2);
    x.tell(0, 2);
    Due.is("r", x.believed(), 4);
    x.forget(0);
    Due.is("forgotten", x.believed(), 0);
    Due.is("none at all", new GirlShots().believed(), 0);
    x = told("mark m 9 3;party p m 1 0;party q m 1 0;party r m 1 0;party s m 1 0;");
    x.tell(0, 1);
    Due.is("all", x.believed(), 15);
  }

  // Promise 30, 31

  private static void edgeSee1To40Days() {
    GirlShots x = told(FILM);
    for (int days : new int[] {0, -1, 41, MIN, MAX}) Due.is("days " + days, x.see(days, 0, true), -1);
    Due.is("none is there", x.count(12), 0);
    Due.is("1", x.see(1, 0, true), 0);
    Due.is("40", x.see(40, 0, true), 1);
  }

  private static void edgeSeeNoSuchMark() {
    GirlShots x = told(FILM);
    for (int mark : new int[] {-1, 2, 6, MIN, MAX}) Due.is("mark " + mark, x.see(1, mark, false), -1);
    Due.is("none is there", x.count(12), 0);
    Due.is("the last", x.see(1, 1, false), 0);
  }

  private static void edgeSeeAtMost24() {
    GirlShots x = told(FILM);
    for (int k = 0; k < 24; k++) Due.is("see " + k, x.see(1, 0, true), k);
    Due.is("full", x.see(1, 0, true), -1);
    Due.is("full", x.out(23), -1);
    Due.is("24", x.count(12), 24);
    Feeder.read(x, FILM);
    Due.is("room again", x.see(1, 0, true), 0);
  }

  private static void edgeOutNoSuchOne() {
    GirlShots x = told(FILM);
    for (int seen : new int[] {-1, 0, 1, MIN, MAX}) Due.is("of none " + seen, x.out(seen), -1);
    x.see(1, 0, true);
    for (int seen : new int[] {-1, 1, 2, 24, MIN, MAX}) Due.is("of one " + seen, x.out(seen), -1);
    Due.is("one", x.count(12), 1);
    Due.is("the first", x.out(0), 1);
    Due.is("itself", x.out(2), -1);
  }

  private static void edgeOutAtMost24() {
    GirlShots x = told(FILM);
    x.see(1, 0, true);
    for (int k = 1; k < 24; k++) Due.is("out " + k, x.out(k - 1), k);
    Due.is("full", x.out(0), -1);
    Due.is("full", x.see(1, 0, true), -1);
    Due.is("24", x.count(12), 24);
  }

  private static void edgeThe24thIsKnown() {
    for (int said = 0; said < 2; said++) {
      GirlShots x = told(FILM);
      for (int k = 0; k < 23; k++) x.see(1, 1, false);
      Due.is("the 24th", x.see(1, 0, said == 1), 23);
      Due.is("hat", x.struckHow(0), said == 1 ? 992 : 31);
    }
  }

  private static void edgeOutCountsAsSeen() {
    GirlShots x = told(FILM);
    x.see(1, 0, false);
    Due.is("false of hat", x.struckHow(0), 31);
    x.out(0);
    Due.is("struck", x.struckHow(0), 1023);
    Due.is("two", x.count(12), 2);
    Due.is("known by two", x.count(13), 2);
  }

  // Promise 32

  private static void edgeKnownNoSuchN() {
    GirlShots x = told(FILM);
    x.see(1, 0, true);
    x.see(1, 0, true);
    for (int n : new int[] {-2, 3, 24, 25, MIN, MAX}) Due.is("n " + n, x.known(n), false);
    Due.is("all still", x.count(13), 2);
    for (int n = -1; n <= 2; n++) Due.is("n " + n, x.known(n), true);
    Due.is("of none", new GirlShots().known(1), false);
    Due.is("of none", new GirlShots().known(0), true);
    Due.is("of none", new GirlShots().known(-1), true);
  }

  private static void edgeKnownByAllAlsoThoseToCome() {
    GirlShots x = told(FILM);
    x.see(1, 0, true);
    x.known(1);
    x.see(1, 0, true);
    Due.is("by one", x.count(13), 1);
    x.known(-1);
    Due.is("by all", x.count(13), 2);
    x.see(1, 0, true);
    Due.is("by those to come", x.count(13), 3);
    x.known(3);
    x.see(1, 0, true);
    Due.is("by three", x.count(13), 3);
    x.known(0);
    Due.is("by none", x.count(13), 0);
  }

  private static void edgeKnown24() {
    GirlShots x = told(FILM);
    for (int k = 0; k < 24; k++) x.see(1, 0, k > 0);
    for (int n = 0; n <= 24; n++) {
      Due.is("known " + n, x.known(n), true);
      Due.is("by " + n, x.struckHow(0), n == 0 ? 1023 : n == 1 ? 31 : 0);
    }
    Due.is("25", x.known(25), false);
  }

  private static void edgeStruckByOneOfTheFirstNOnly() {
    GirlShots x = told(FILM);
    x.see(1, 0, false);
    x.see(1, 0, true);
    x.out(0);
    x.out(2);
    x.out(3);
    int[] want = {1023, 31, 0, 992, 0, 992};
    for (int n = 0; n <= 5; n++) {
      x.known(n);
      Due.is("by " + n, x.struckHow(0), want[n]);
    }
  }

  private static void edgeStruckTwice() {
    GirlShots x = told(FILM);
    x.see(1, 0, false);
    x.out(0);
    x.out(0);
    Due.is("struck", x.struckHow(0), 1023);
    x.out(1);
    Due.is("still struck by the other", x.struckHow(0), 1023);
    x.out(2);
    Due.is("by none", x.struckHow(0), 31);
  }

  private static void edgeStrikingTheLastOfAll() {
    GirlShots x = told(FILM);
    for (int k = 0; k < 22; k++) x.see(1, 0, true);
    x.see(1, 0, false);
    Due.is("both can't be", x.struckHow(0), 0);
    Due.is("the 24th", x.out(22), 23);
    Due.is("struck", x.struckHow(0), 992);
  }

  // Promise 33

  private static void edgeStruckHowNoSuchMark() {
    for (int mark : new int[] {-1, 2, 6, MIN, MAX}) Due.is("mark " + mark, told(FILM).struckHow(mark), -1);
    Due.is("of none", new GirlShots().struckHow(0), -1);
  }

  private static void edgeStruckHowNothingSeen() {
    Due.is("all ten", told(FILM).struckHow(0), 1023);
    Due.is("all ten", told(FILM).struckHow(1), 1023);
  }

  private static void edgeStruckHow0To90() {
    for (int strikes = 0; strikes <= 99; strikes++) {
      GirlShots x = told("mark m 9 2;shot s 1 0;has s m 1;law notice strike=" + strikes + ";");
      x.see(1, 0, true);
      Due.is("strikes " + strikes, x.struckHow(0), strikes % 10 == 0 ? 1 << strikes / 10 : 0);
    }
  }

  private static void edgeStruckHowBehind40Days() {
    for (int days : new int[] {1, 2, 39, 40}) {
      GirlShots x = told("mark m 9 2;shot s 1 " + (days - 1) + ";shot t 1 " + days + ";has s m 1;has t m 1;");
      x.see(days, 0, true);
      Due.is("on the last day " + days, x.struckHow(0), 992);
      x = told("mark m 9 2;shot s 1 " + days + ";has s m 1;");
      x.see(days, 0, true);
      Due.is("a day too late " + days, x.struckHow(0), 0);
      x = told("mark m 9 2;shot s 1 " + days + ";has s m 1;");
      x.see(days, 0, false);
      Due.is("nothing " + days, x.struckHow(0), 1023);
    }
  }

  private static void edgeStruckHowFromTheTextOn() {
    GirlShots x = told(FILM);
    x.see(1, 0, true);
    x.tell(0, 1);
    x.move(0, 9);
    Due.is("nothing done by call", x.struckHow(0), 992);
    x.go(20);
    x.tell(1, 0);
    x.see(3, 1, false);
    Due.is("nothing done by call", x.struckHow(1), 31);
    Due.is("nor days", x.struckHow(0), 992);
  }

  private static void edgeStruckHowAsItGoes() {
    String film = "mark m 99 2;shot s 1 0;has s m 1;seed 5;ill ";
    for (int ill : new int[] {0, 49, 50, 100}) {
      GirlShots x = told(film + ill + ";");
      x.see(1, 0, true);
      Due.is("ill " + ill, x.struckHow(0), ill < 50 ? 992 : 0);
    }
  }

  private static void edgeStruckHowInPlaceOfItsOwn() {
    GirlShots x = told("mark m 99 2;mark n 99 2;shot s 1 0;has s m 1;has s n 1;");
    x.see(1, 1, true);
    Due.is("n strikes by its own", x.struckHow(0), 1023);
    Due.is("n in place of it", x.struckHow(1), 992);
    Due.is("its own stays", x.mark(1, 0), 99);
  }

  // Promise 34

  private static final String DRAWN = "mark m 99 3;shot s 9 0;shot t 9 1;has s m 0;has t m 1;purse 0;ill 30;";

  private static void edgeChanceNoSuchOnes() {
    GirlShots x = told(DRAWN);
    for (int seed : new int[] {-1, MIN}) Due.is("seed " + seed, x.chance(seed, 1, 0), -1);
    for (int n : new int[] {0, -1, 100, MIN, MAX}) Due.is("n " + n, x.chance(1, n, 0), -1);
    for (int clashes : new int[] {-1, 21, MIN, MAX}) Due.is("clashes " + clashes, x.chance(1, 1, clashes), -1);
    for (int seed : new int[] {0, 1, MAX - 1, MAX}) Due.is("seed " + seed, x.chance(seed, 1, 0), 10);
    for (int n : new int[] {1, 99}) Due.is("n " + n, x.chance(1, n, 0), 10);
    for (int clashes : new int[] {2, 20}) Due.is("clashes " + clashes, x.chance(1, 9, clashes), 0);
  }

  private static void edgeChanceOneDrawBehindAnother() {
    for (int seed : new int[] {0, 1, 12345, MAX - 1, MAX}) {
      long number = seed;
      int times = 0;
      for (int draw = 0; draw < 10; draw++) {
        boolean[] away = new boolean[2];
        for (int day = 0; day < 2; day++) {
          number = (number * 1103515245L + 12345L) % (1L << 31);
          away[day] = number / 65536 % 100 < 30;
        }
        if (away[0] != away[1]) times++;
      }
      Due.is("seed " + seed, told(DRAWN).chance(seed, 2, 1), times);
    }
  }

  private static void edgeChanceSoManyAtLeast() {
    GirlShots x = behind(1, "mark m 9 2;shot a 1 0;shot b 1 0;shot c 1 0;has a m 0;has b m 0;has c m 0;purse 0;");
    x.tell(0, 1);
    for (int clashes = 0; clashes < 6; clashes++) Due.is("clashes " + clashes, x.chance(1, 1, clashes), clashes <= 3 ? 10 : 0);
  }

  private static void edgeChanceOf20Clashes() {
    StringBuilder text = new StringBuilder("purse 0;");
    for (int k = 0; k < 6; k++) text.append("mark ").append((char) ('a' + k)).append(" 9 2;");
    for (int k = 0; k < 8; k++) text.append("shot ").append((char) ('a' + k)).append(" 9 0;");
    for (int k = 0; k < 20; k++) text.append("has ").append((char) ('a' + k / 6)).append(' ').append((char) ('a' + k % 6)).append(" 0;");
    GirlShots x = behind(1, text.toString());
    for (int k = 0; k < 6; k++) x.tell(k, 1);
    Due.is("20 clashes", x.count(10), 20);
    Due.is("20", x.chance(1, 1, 20), 10);
    Due.is("19", x.chance(1, 1, 19), 10);
    x.tell(5, 0);
    Due.is("17 are fewer than 20", x.chance(1, 1, 20), 0);
  }

  private static void edgeChanceFromNowOn() {
    GirlShots x = told(DRAWN);
    x.go(2);
    Due.is("as it is", x.chance(7, 5, 1), x.count(10) > 0 ? 10 : 0);
    String before = look(x);
    x.chance(9, 99, 0);
    same("chance", before, x);
  }

  // Promise 35

  private static void edgeTriedNoSuchOnes() {
    GirlShots x = told(FILM + PARTIES);
    for (int what : new int[] {-1, 6, MIN, MAX}) Due.is("what " + what, x.tried(what, 0, 1), -1);
    for (int n : new int[] {-1, 100, MIN, MAX}) for (int what = 0; what < 6; what++) Due.is("n " + n, x.tried(what, 0, n), -1);
    for (int what = 0; what < 6; what++) for (int i : new int[] {1, -1, 2, MIN, MAX})
      Due.is(what + " i " + i, x.tried(what, i, 0), what == 2 && i == 1 ? 0 : -1);
    Due.is("party 0", x.tried(2, 0, 0), 0);
    Due.is("the fourth party", told(FULL).tried(2, 3, 1), 0);
    Due.is("the fifth party", told(FULL).tried(2, 4, 1), -1);
    Due.is("no party", told(FILM).tried(2, 0, 1), -1);
  }

  private static void edgeTried0And99() {
    GirlShots x = behind(1, "mark m 9 2;shot s 9 0;shot t 9 99;has s m 1;has t m 1;purse 0;cold 2 99;law again 1000;");
    x.tell(0, 0);
    for (int what = 0; what < 6; what++) {
      if (what == 2) continue;
      Due.is("now " + what, x.tried(what, 0, 0), 1);
      Due.is("98 " + what, x.tried(what, 0, 98), 1);
      Due.is("99 " + what, x.tried(what, 0, 99), what == 1 ? 1 : 2);
    }
  }

  private static void edgeTriedNeverAway() {
    String film = "mark m 9 2;shot s 9 0;has s m 1;purse 0;";
    for (String away : new String[] {"cold 0 0;", "ill 50;", "ill 100;", "ill 100;cold 0 9;"}) {
      GirlShots x = told(film + away);
      x.tell(0, 0);
      Due.is("as it goes " + away, x.tried(0, 0, 1), 1);
      Due.is("never away " + away, x.tried(1, 0, 1), 0);
    }
  }

  private static void edgeTriedAPartyGivesNothing() {
    GirlShots x = behind(1, "mark m 0 3;mark n 0 3;shot s 9 0;has s m 0;has s n 0;party p m 1 9;party q n 1 9;purse 0;");
    x.tell(0, 0);
    x.tell(1, 0);
    Due.is("both", x.tried(0, 0, 1), 2);
    Due.is("q alone", x.tried(2, 0, 1), 1);
    Due.is("p alone", x.tried(2, 1, 1), 1);
  }

  private static void edgeTriedNothingAgain() {
    GirlShots x = behind(1, "mark m 9 3;shot s 9 0;has s m 0;");
    x.tell(0, 1);
    Due.is("again", x.tried(0, 0, 1), 0);
    Due.is("not again", x.tried(3, 0, 99), 1);
  }

  private static void edgeTriedNoYielding() {
    GirlShots x = behind(1, "mark m 0 3;shot s 9 0;has s m 0;party p m 1 9;purse 0;");
    x.tell(0, 0);
    Due.is("she yields", x.tried(0, 0, 1), 1);
    Due.is("she doesn't", x.tried(4, 0, 99), 0);
  }

  private static void edgeTriedAllStrike99() {
    GirlShots x = told("mark m 0 3;mark n 49 3;shot s 9 0;shot t 9 1;has s m 0;has s n 0;has t m 1;has t n 1;cold 1 1;purse 0;");
    Due.is("none is noticed", x.tried(0, 0, 2), 0);
    Due.is("both are", x.tried(5, 0, 2), 2);
    x = behind(1, "mark m 0 3;shot s 9 0;has s m 0;party p m 1 99;purse 0;");
    x.tell(0, 0);
    Due.is("by nine plums not", x.tried(5, 0, 9), 0);
    Due.is("by ten", x.tried(5, 0, 10), 1);
    x = told("mark m 0 3;mark n 49 3;shot s 9 0;shot t 9 1;has s m 0;has s n 0;has t m 1;has t n 1;cold 1 1;purse 0;law notice strike=99;");
    Due.is("99 and no more", x.tried(5, 0, 2), 2);
  }

  // questions do nothing

  private static final int QUESTIONS = 26;

  private static long ask(GirlShots x, int question) {
    switch (question) {
      case 0: return x.ahead(3, 0);
      case 1: return x.ahead(9, 1);
      case 2: return x.ahead(9, 2);
      case 3: return x.ahead(9, 3);
      case 4: return x.ahead(9, 4);
      case 5: return x.agrees();
      case 6: return x.least(6);
      case 7: return x.order(0);
      case 8: return x.order(4);
      case 9: return x.bribe(0);
      case 10: return x.without(9);
      case 11: return x.struckHow(0);
      case 12: return x.struckHow(1);
      case 13: return x.chance(3, 9, 1);
      case 14: return x.tried(0, 0, 9);
      case 15: return x.tried(1, 0, 9);
      case 16: return x.tried(2, 0, 9);
      case 17: return x.tried(3, 0, 9);
      case 18: return x.tried(4, 0, 9);
      case 19: return x.tried(5, 0, 9);
      case 20: return x.law(0, 0, 0);
      case 21: return x.law(1, 0, 0);
      case 22: return x.law(2, 0, 0);
      case 23: return x.tried(2, 1, 9);
      case 24: return x.noted();
      default: return x.rest(0, 1, 0);
    }
  }

  private static GirlShots asked(int ill) {
    GirlShots x = behind(1, "mark hat 10 3;mark sea 60 2;mark sun 30 4;shot one 10 0;shot two 20 2;shot six 5 3;shot ten 5 4;has one hat 0;has one sea 1;"
        + "has two hat 2;has six hat 1;has six sea 0;has ten sun 3;has one sun 2;party p hat 1 9;party q hat 2 3;cold 2 2;purse 40;seed 5;ill " + ill
        + ";law notice strike+10*times>20 and not away;law yield plums*10>strike;law again cost+said+plums;");
    x.tell(0, 0);
    x.see(3, 0, true);
    x.see(5, 1, false);
    return x;
  }

  private static void edgeNoQuestionDisturbsAnother() {
    for (int ill : new int[] {0, 30, 49, 50, 70, 100}) {
      long[] alone = new long[QUESTIONS];
      for (int k = 0; k < QUESTIONS; k++) alone[k] = ask(asked(ill), k);
      for (int first = 0; first < QUESTIONS; first++) {
        GirlShots x = asked(ill);
        for (int second = 0; second < QUESTIONS; second++) {
          ask(x, first);
          Due.is("ill " + ill + ": " + second + " behind " + first, ask(x, second), alone[second]);
        }
      }
    }
  }

  private static void edgeDaysGoByAlikeBehindQuestions() {
    for (int question = 0; question < QUESTIONS; question++) {
      GirlShots x = asked(30);
      GirlShots y = asked(30);
      ask(x, question);
      x.go(20);
      y.go(20);
      Due.is("behind " + question, look(x).equals(look(y)), true);
    }
  }

  private static void edgeQuestionsDoNothing() {
    GirlShots x = behind(1, FILM + PARTIES + "ill 30;seed 8;clerk c 3;");
    x.plums(0, 3);
    x.see(2, 0, true);
    String before = look(x);
    x.law(0, 0, 0);
    for (int n : new int[] {0, 7, 99}) for (int what = 0; what < 5; what++) x.ahead(n, what);
    x.breaks();
    x.agrees();
    for (int what = 0; what < 7; what++) x.least(what);
    for (int what = 0; what < 5; what++) x.order(what);
    x.noted();
    x.bribe(0);
    x.rests(0, 1);
    x.rest(0, 1, 0);
    x.there(6, 0);
    x.without(99);
    x.run();
    x.believed();
    x.struckHow(0);
    x.chance(1, 99, 3);
    for (int what = 0; what < 6; what++) x.tried(what, 0, 99);
    same("questions", before, x);
    Due.is("undo stays", x.undo(), 0);
  }

  // Promise 36

  private static void edgeUndoNone() {
    Due.is("a new object", new GirlShots().undo(), -1);
    GirlShots x = told(FILM);
    Due.is("a text", x.undo(), -1);
    x.tell(0, 0);
    Due.is("the only one", x.undo(), 0);
    Due.is("no more", x.undo(), -1);
  }

  private static void edgeUndo20AtMost() {
    GirlShots x = told(FILM + PARTIES);
    for (int k = 1; k <= 20; k++) {
      x.plums(0, 1);
      Due.is("count " + k, x.count(14), k);
    }
    x.plums(0, 1);
    Due.is("20 at most", x.count(14), 20);
    for (int k = 19; k >= 0; k--) Due.is("left " + k, x.undo(), k);
    Due.is("no more", x.undo(), -1);
    Due.is("the first one stays", x.party(0, 2), 10);
  }

  private static void edgeUndoOfJust20() {
    GirlShots x = told(FILM + PARTIES);
    for (int k = 1; k <= 20; k++) x.plums(0, 1);
    for (int k = 19; k >= 0; k--) Due.is("left " + k, x.undo(), k);
    Due.is("all of them", x.party(0, 2), 9);
  }

  /** The k-th of things in turns: plums, a day, said, forgotten. */
  private static boolean doThing(GirlShots x, int k) {
    switch (k % 4) {
      case 0: return x.plums(k / 4 % 2, 1 + k) > 0;
      case 1: return x.move(k % 3, 10 + k);
      case 2: return x.tell(k / 4 % 2, 1);
      default: return x.forget(k / 4 % 2);
    }
  }

  /** Without the counts that go ahead. */
  private static String lookButUndo(GirlShots x) {
    return look(x).replaceFirst("(\\S+ ){15}", "");
  }

  private static String looked(int things, int undone, int left) {
    GirlShots x = told(FILM + PARTIES);
    for (int k = 0; k < things; k++) Due.is("thing " + k, doThing(x, k), true);
    int last = 0;
    for (int k = 0; k < undone; k++) last = x.undo();
    if (undone > 0) Due.is("left of " + things + " behind " + undone, last, left);
    return lookButUndo(x);
  }

  private static void edgeUndo20OfEachKind() {
    for (int things = 19; things <= 31; things++) {
      int most = Math.min(20, things);
      for (int undone = 1; undone <= most; undone++)
        Due.is(undone + " undone of " + things, looked(things, undone, most - undone).equals(looked(things - undone, 0, 0)), true);
      Due.is("no more of " + things, looked(things, most + 1, -1).equals(looked(things - most, 0, 0)), true);
    }
  }

  private static void edgeUndoNotIfADayWentBy() {
    GirlShots x = told(FILM + PARTIES);
    x.plums(0, 1);
    Due.is("no day", x.go(0), 0);
    Due.is("it can", x.count(14), 1);
    x.go(100);
    x.go(-1);
    Due.is("refused days", x.count(14), 1);
    x.go(1);
    Due.is("it can't", x.undo(), -1);
    Due.is("none", x.count(14), 0);
    x.plums(0, 1);
    Due.is("what was done since", x.undo(), 0);
    Due.is("and nothing ahead of it", x.undo(), -1);
  }

  private static void edgeUndoWhatWasRefusedIsNotThere() {
    GirlShots x = told(FILM + PARTIES);
    x.plums(0, 0);
    x.plums(9, 1);
    x.move(0, 0);
    x.move(9, 9);
    x.tell(0, 3);
    x.tell(9, 0);
    x.forget(0);
    x.forget(9);
    Due.is("none", x.count(14), 0);
    Due.is("none", x.undo(), -1);
  }

  private static void edgeUndoOfEachKind() {
    GirlShots x = told(FILM + PARTIES);
    x.tell(0, 2);
    x.forget(0);
    x.move(2, 77);
    x.plums(1, 50);
    Due.is("plums", x.undo(), 3);
    Due.is("plums", x.party(1, 2), 4);
    Due.is("a day", x.undo(), 2);
    Due.is("a day", x.shot(2, 1), 2);
    Due.is("forgotten", x.undo(), 1);
    Due.is("forgotten", x.mark(0, 2), 2);
    Due.is("said", x.undo(), 0);
    Due.is("said", x.mark(0, 2), -1);
  }

  private static void edgeWhatWasSeenIsNotUndone() {
    GirlShots x = told(FILM);
    x.see(1, 0, true);
    x.out(0);
    x.known(1);
    x.keep();
    Due.is("none", x.undo(), -1);
    Due.is("seen", x.count(12), 2);
  }

  // Promise 37, 38

  private static void edgeBackNone() {
    Due.is("a new object", new GirlShots().back(), -1);
    GirlShots x = told(FILM);
    Due.is("a text", x.back(), -1);
    x.keep();
    Feeder.read(x, "?");
    Due.is("a fault", x.back(), 0);
    Feeder.read(x, FILM);
    Due.is("another text", x.back(), -1);
  }

  private static void edgeBackIsRefusedAndNothingComesOfIt() {
    GirlShots x = behind(2, FILM + PARTIES);
    x.plums(0, 1);
    String before = look(x);
    Due.is("none", x.back(), -1);
    same("back", before, x);
  }

  private static void edgeKeepInPlaceOfOneAhead() {
    GirlShots x = told(FILM);
    Due.is("0", x.keep(), 0);
    x.go(2);
    Due.is("2", x.keep(), 2);
    x.go(2);
    Due.is("the latest", x.back(), 2);
    Due.is("once more", x.back(), 2);
  }

  private static void edgeImageOfAll() {
    GirlShots x = behind(3, FILM + PARTIES + "ill 40;seed 6;cold 1 1;");
    x.tell(1, 1);
    x.tell(0, 2);
    x.move(2, 50);
    x.keep();
    String before = lookButUndo(x);
    int[] counts = new int[14];
    for (int what = 0; what < 14; what++) counts[what] = x.count(what);
    x.forget(0);
    x.tell(1, 0);
    x.plums(0, 7);
    x.go(40);
    Due.is("day", x.back(), 3);
    for (int what = 0; what < 14; what++) Due.is("count " + what, x.count(what), counts[what]);
    Due.is("all", lookButUndo(x).equals(before), true);
    Due.is("nothing to undo", x.count(14), 0);
    GirlShots y = behind(3, FILM + PARTIES + "ill 40;seed 6;cold 1 1;");
    y.tell(1, 1);
    y.tell(0, 2);
    y.move(2, 50);
    for (int k = 0; k < 30; k++) {
      x.go(1);
      y.go(1);
      Due.is("the same numbers", x.count(11), y.count(11));
    }
    Due.is("the same days", look(x).equals(look(y)), true);
  }

  private static void edgeImageKeepsTheRowOfAway() {
    GirlShots x = behind(2, "mark m 9 2;law yield away;cold 0 1;");
    x.keep();
    x.go(3);
    Due.is("there", x.law(1, 0, 0), 0);
    x.back();
    Due.is("two days away", x.law(1, 0, 0), 2);
  }

  private static void edgeImageDoesNotKeepWhatWasSeen() {
    GirlShots x = told(FILM);
    x.see(1, 0, true);
    x.keep();
    x.see(1, 0, false);
    x.known(1);
    Due.is("back", x.back(), 0);
    Due.is("seen", x.count(12), 2);
    Due.is("known", x.count(13), 1);
  }

  private static void edgeImageDoesNotKeepTapeAndFault() {
    GirlShots x = told(FILM);
    x.keep();
    Feeder.read(x, "ill 101;");
    Feeder.feed(x, "purse 7;");
    Due.is("back", x.back(), 0);
    Due.is("the fault", x.fault(0), 2);
    Due.is("its place", x.fault(1), 4);
    Due.is("the tape", x.text(8), 1);
    Due.is("purse", x.count(9), 7);
  }

  private static void edgeKeepLeavesWhatCanBeUndone() {
    GirlShots x = told(FILM + PARTIES);
    x.plums(0, 1);
    x.keep();
    Due.is("one", x.count(14), 1);
    Due.is("undone", x.undo(), 0);
    Due.is("plums", x.party(0, 2), 9);
    Due.is("back", x.back(), 0);
    Due.is("plums of the image", x.party(0, 2), 10);
    Due.is("nothing to undo", x.undo(), -1);
  }

  private static void edgeBackAtOnceLeavesNothingToUndo() {
    GirlShots x = told(FILM + PARTIES);
    x.keep();
    x.plums(0, 1);
    x.back();
    Due.is("nothing to undo", x.undo(), -1);
    Due.is("plums", x.party(0, 2), 9);
  }

  // Promise 39

  private static void edgeCountAnotherWhat() {
    for (int what : new int[] {-1, 15, 16, MIN, MAX}) {
      Due.is("what " + what, told(FULL).count(what), -1);
      Due.is("of none " + what, new GirlShots().count(what), -1);
    }
  }

  private static void edgeCountOfAll() {
    int[] want = {6, 8, 4, 4, 0, 0, 0, 0, 0, 99, 0, 0, 0, 0, 0};
    for (int what = 0; what < 15; what++) Due.is("what " + what, told(FULL).count(what), want[what]);
  }

  private static void edgeCountOfKnots() {
    Due.is("three laws", told("law notice 1;law yield not (1+2);law again cost<day and (said or 0);").count(4), 1 + 4 + 7);
  }

  // "An object is used for at most 512 calls"

  private static void edge512Calls() {
    GirlShots x = new GirlShots();
    int calls = 0;
    for (; calls < 500; calls += 5) {
      Due.is("feed", x.feed(0x6d61726b, 0x20612039, 0x3920323b, 0x20202020, 0x20202020), 20);
      Due.is("text", x.text(20), 1);
      Due.is("tell", x.tell(0, 1), true);
      Due.is("keep", x.keep(), 0);
      Due.is("go", x.go(99), 99);
    }
    Due.is("the last ones", x.back(), 0);
    Due.is("the last one", x.mark(0, 2), 1);
  }
}
