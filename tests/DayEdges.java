/** The boundary cases of a DAY, of VALUES and NAMES, of numbers and of what goes "as it goes", a method each. */
public final class DayEdges {
  private static final long ERROR = Long.MIN_VALUE;

  private DayEdges() { }

  public static void main(String[] args) {
    Cases.run(DayEdges.class);
  }

  private static GirlShots told(String text) {
    return Feeder.told(text);
  }

  private static GirlShots behind(int days, String text) {
    GirlShots x = told(text);
    x.go(days);
    return x;
  }

  // "She SAYS of a MARK that it is in a WAY, or nothing (of all, at first)."

  private static void edgeAtFirstSheSaysNothing() {
    GirlShots x = told("mark a 99 6;mark b 0 2;");
    Due.is("a", x.mark(0, 2), -1);
    Due.is("b", x.mark(1, 2), -1);
  }

  // "if it is in a cold (both ends are in it)"

  private static int[] awayDays(String text, int days) {
    GirlShots x = told(text);
    int[] away = new int[days];
    int before = 0;
    for (int day = 0; day < days; day++) {
      x.go(1);
      away[day] = x.count(11) - before;
      before = x.count(11);
    }
    return away;
  }

  private static void awayFrom(String text, int... bounds) {
    int[] away = awayDays(text, 103);
    for (int day = 0; day < away.length; day++) {
      boolean in = false;
      for (int k = 0; k < bounds.length; k += 2) in |= day >= bounds[k] && day <= bounds[k + 1];
      Due.is(text + " day " + day, away[day], in ? 1 : 0);
    }
  }

  private static void edgeBothEndsOfAColdAreInIt() {
    awayFrom("cold 3 6;", 3, 6);
  }

  private static void edgeColdOfOneDay() {
    awayFrom("cold 5 5;", 5, 5);
  }

  private static void edgeColdFromTheFirstDay() {
    awayFrom("cold 0 0;", 0, 0);
  }

  private static void edgeColdToTheLastDay() {
    awayFrom("cold 99 99;", 99, 99);
    awayFrom("cold 0 99;", 0, 99);
  }

  private static void edgeColdsThatMeet() {
    awayFrom("cold 3 5;cold 5 7;cold 8 9;", 3, 9);
    awayFrom("cold 20 22;cold 1 2;cold 10 10;", 20, 22, 1, 2, 10, 10);
  }

  private static void edgeNoColdNoIll() {
    awayFrom("purse 1;");
  }

  private static void edgeADayInTwoColdsCountsOnce() {
    GirlShots x = behind(10, "cold 2 4;cold 3 5;cold 2 5;");
    Due.is("four days", x.count(11), 4);
  }

  // "if a number modulo 100 is below ill (no number in a cold, or if ill is 0 or 100)"

  private static long next(long number) {
    return (number * 1103515245L + 12345L) % (1L << 31);
  }

  private static int toldOf(long number) {
    return (int) (number / 65536 % 100);
  }

  private static void edgeANumberThatIsIllIsNotBelowIt() {
    for (int seed = 0; seed < 40; seed++) {
      int first = toldOf(next(seed));
      if (first > 0) Due.is("ill " + first, behind(1, "seed " + seed + ";ill " + first + ";").count(11), 0);
      if (first < 99) Due.is("ill above " + first, behind(1, "seed " + seed + ";ill " + (first + 1) + ";").count(11), 1);
    }
  }

  private static void edgeIll1AndIll99() {
    for (int ill : new int[] {1, 99}) {
      GirlShots x = told("seed 77;ill " + ill + ";");
      long number = 77;
      int away = 0;
      for (int day = 0; day < 200; day++) {
        number = next(number);
        away += toldOf(number) < ill ? 1 : 0;
        x.go(1);
        Due.is("ill " + ill + " day " + day, x.count(11), away);
      }
      Due.is("both are seen", away > 0 && away < 200, true);
    }
  }

  private static void edgeIll0IsNeverAndIll100IsAlways() {
    awayFrom("ill 0;seed 3;");
    awayFrom("ill 100;seed 3;", 0, 200);
    awayFrom("ill 100;seed 3;cold 4 9;", 0, 200);
    awayFrom("ill 0;seed 3;cold 4 9;", 4, 9);
  }

  private static void edgeNoNumberInACold() {
    int[] without = awayDays("ill 50;seed 4711;", 60);
    int[] with = awayDays("ill 50;seed 4711;cold 10 19;cold 30 30;", 71);
    int k = 0;
    for (int day = 0; day < 71; day++) {
      boolean cold = day >= 10 && day <= 19 || day == 30;
      Due.is("day " + day, with[day], cold ? 1 : without[k++]);
    }
  }

  private static void edgeNoNumberIfIllIs0Or100() {
    String film = "mark m 9 2;shot s 1 0;has s m 0;purse 0;";
    for (int ill : new int[] {0, 100}) {
      GirlShots x = told(film + "ill " + ill + ";cold 1 1;");
      x.tell(0, 1);
      Due.is("ten or none of ten: " + ill, x.chance(5, 3, 1), ill == 100 ? 10 : 0);
    }
  }

  private static void edgeNumbersAreOf31Bits() {
    long number = 99999;
    GirlShots x = told("ill 50;seed 99999;");
    int away = 0;
    for (int day = 0; day < 500; day++) {
      number = number * 1103515245L + 12345L & Integer.MAX_VALUE;
      away += number / 65536 % 100 < 50 ? 1 : 0;
      if (day % 5 == 4) {
        x.go(5);
        Due.is("day " + day, x.count(11), away);
      }
    }
  }

  private static void edgeManyDaysAtOnceAreAsOneByOne() {
    String film = "mark m 30 4;shot s 9 0;shot t 9 3;shot u 5 40;has s m 1;has t m 2;has u m 3;party p m 3 50;ill 40;seed 12;law notice day>2;";
    GirlShots x = told(film);
    GirlShots y = told(film);
    x.go(99);
    for (int k = 0; k < 99; k++) y.go(1);
    for (int what = 0; what < 15; what++) Due.is("count " + what, x.count(what), y.count(what));
    for (int shot = 0; shot < 3; shot++) Due.is("way", x.way(shot, 0), y.way(shot, 0));
    for (int what = 0; what < 5; what++) Due.is("mark " + what, x.mark(0, what), y.mark(0, what));
  }

  // "by numbers each SHOT of this DAY that isn't FILMED yet is FILMED"

  private static void edgeOnlyShotsOfThisDay() {
    GirlShots x = told("shot s 1 0;shot t 1 1;shot u 1 99;");
    Due.is("none yet", x.count(6), 0);
    x.go(1);
    Due.is("s", x.shot(0, 2), 1);
    Due.is("not t", x.shot(1, 2), 0);
    x.go(98);
    Due.is("t", x.shot(1, 2), 1);
    Due.is("not u", x.shot(2, 2), 0);
    x.go(1);
    Due.is("u", x.shot(2, 2), 1);
  }

  private static void edgeFilmedOnce() {
    GirlShots x = told("mark m 9 3;shot s 1 0;shot t 1 0;has s m 0;has t m 0;purse 0;");
    x.go(1);
    x.tell(0, 1);
    x.keep();
    x.go(5);
    Due.is("not changed behind its day", x.count(7), 0);
    Due.is("as it was", x.way(0, 0), 0);
  }

  private static void edgeFilmedThoughSheIsAway() {
    Due.is("filmed", behind(1, "shot s 1 0;cold 0 0;").count(6), 1);
  }

  private static void edgeByNumbersOfShots() {
    GirlShots x = behind(1, "mark m 99 3;shot s 1 0;shot t 1 0;has t m 2;has s m 1;purse 0;");
    Due.is("s is first", x.mark(0, 2), 1);
    Due.is("t is changed", x.way(1, 0), 1);
  }

  // "its WAY in this SHOT is that (CHANGED once more, if it was another one)"

  private static void edgeChangedOnlyIfAnotherOne() {
    String film = "mark m 9 3;shot s 1 0;has s m 1;purse 0;";
    GirlShots x = told(film);
    x.tell(0, 1);
    x.go(1);
    Due.is("the same one", x.count(7), 0);
    x = told(film);
    x.tell(0, 2);
    x.go(1);
    Due.is("another one", x.count(7), 1);
    Due.is("is that", x.way(0, 0), 2);
    x = told(film);
    x.tell(0, 0);
    x.go(1);
    Due.is("way 0", x.way(0, 0), 0);
    Due.is("changed to way 0", x.count(7), 1);
  }

  private static void edgeChangedCountsMarks() {
    GirlShots x = told("mark m 9 3;mark n 9 3;mark o 9 3;shot s 1 0;has s m 1;has s n 1;has s o 1;");
    x.tell(0, 2);
    x.tell(1, 2);
    x.go(1);
    Due.is("two", x.count(7), 2);
    Due.is("of o nothing is said", x.way(0, 2), 1);
  }

  private static void edgeNothingIsChangedIfSheIsAway() {
    GirlShots x = told("mark m 9 3;shot s 1 0;has s m 1;purse 0;cold 0 0;");
    x.tell(0, 2);
    x.go(1);
    Due.is("not changed", x.count(7), 0);
    Due.is("as it was", x.way(0, 0), 1);
    Due.is("it clashes", x.count(10), 1);
  }

  private static void edgeAMarkThatIsNotInTheShotIsNotChanged() {
    GirlShots x = told("mark m 9 3;mark n 9 3;shot s 1 0;has s m 1;");
    x.tell(1, 2);
    x.go(1);
    Due.is("not in it", x.way(0, 1), -2);
    Due.is("not changed", x.count(7), 0);
  }

  // notice: "E of notice isn't 0 (STRIKES is 50 at least, without, with an ERROR)"

  private static int noticed(int strikes, String law) {
    return behind(1, "mark m " + strikes + " 3;shot s 1 0;has s m 1;" + law).mark(0, 2);
  }

  private static void edgeNoticeWithoutALawFrom50On() {
    Due.is("49", noticed(49, ""), -1);
    Due.is("50", noticed(50, ""), 1);
    Due.is("0", noticed(0, ""), -1);
    Due.is("99", noticed(99, ""), 1);
    Due.is("another law", noticed(50, "law yield 0;law again 0;"), 1);
  }

  private static void edgeNoticeWithAnErrorFrom50On() {
    Due.is("49", noticed(49, "law notice 1/0;"), -1);
    Due.is("50", noticed(50, "law notice 1/0;"), 1);
  }

  private static void edgeNoticeByALaw() {
    Due.is("0", noticed(99, "law notice 0;"), -1);
    Due.is("1", noticed(0, "law notice 1;"), 1);
    Due.is("below 0", noticed(0, "law notice 0-1;"), 1);
    Due.is("9999", noticed(0, "law notice 9999;"), 1);
    Due.is("0 by sums", noticed(99, "law notice 7-7;"), -1);
    Due.is("2 to the 32", noticed(0, "law notice 256*256*256*256;"), 1);
  }

  private static void edgeNoticeOnlyOfWhatSheSaysNothing() {
    GirlShots x = told("mark m 99 3;shot s 1 0;has s m 1;purse 0;law notice 1;");
    x.tell(0, 2);
    x.go(1);
    Due.is("stays", x.mark(0, 2), 2);
  }

  private static void edgeNothingIsNoticedIfSheIsAway() {
    Due.is("away", noticed(99, "cold 0 0;"), -1);
    Due.is("away, by law", noticed(99, "law notice 1;ill 100;"), -1);
  }

  private static void edgeAWayNotChangedIsSaid() {
    Due.is("way 0", behind(1, "mark m 99 3;shot s 1 0;has s m 0;").mark(0, 2), 0);
    Due.is("way 5", behind(1, "mark m 99 6;shot s 1 0;has s m 5;").mark(0, 2), 5);
  }

  // plums: "by numbers each PARTY that has PLUMS left and of whose MARK she SAYS another WAY than wanted: it gives one PLUM"

  private static final String BIDDER = "mark m 99 3;party p m 1 ";

  private static void edgeAPartyWithoutPlumsGivesNone() {
    GirlShots x = told(BIDDER + "0;");
    x.tell(0, 0);
    x.go(3);
    Due.is("gave", x.party(0, 3), 0);
    Due.is("left", x.party(0, 2), 0);
    Due.is("given", x.mark(0, 3), 0);
  }

  private static void edgeAPartyWithOnePlumGivesOne() {
    GirlShots x = told(BIDDER + "1;");
    x.tell(0, 0);
    x.go(3);
    Due.is("gave", x.party(0, 3), 1);
    Due.is("left", x.party(0, 2), 0);
    Due.is("given", x.mark(0, 3), 1);
  }

  private static void edgeNoPlumsIfSheSaysIt() {
    GirlShots x = told(BIDDER + "9;");
    x.tell(0, 1);
    x.go(3);
    Due.is("gave", x.party(0, 3), 0);
  }

  private static void edgeNoPlumsIfSheSaysNothing() {
    GirlShots x = told(BIDDER + "9;");
    x.go(3);
    Due.is("gave", x.party(0, 3), 0);
  }

  private static void edgeNoPlumsIfSheIsAway() {
    GirlShots x = told(BIDDER + "9;cold 1 2;");
    x.tell(0, 0);
    int[] want = {1, 1, 1, 2};
    for (int day = 0; day < 4; day++) {
      x.go(1);
      Due.is("day " + day, x.party(0, 3), want[day]);
    }
  }

  private static void edgePlumsForWhatSheNoticedOnTheSameDay() {
    GirlShots x = behind(1, "mark m 99 3;shot s 1 0;has s m 2;party p m 1 9;");
    Due.is("gave", x.party(0, 3), 1);
  }

  private static void edgePartiesGiveByNumbers() {
    GirlShots x = told("mark m 0 4;party p m 1 9;party q m 2 9;party r m 2 9;party s m 1 9;");
    x.tell(0, 1);
    x.go(1);
    int[] want = {0, 1, 0, 1};
    for (int party = 0; party < 4; party++) Due.is("party " + party, x.party(party, 3), want[party]);
    Due.is("she says s's", x.mark(0, 2), 1);
    Due.is("given for it", x.mark(0, 3), 2);
  }

  private static void edgeGivenIsOfTheMark() {
    GirlShots x = told("mark m 99 3;mark n 99 3;party p n 1 9;");
    x.tell(0, 0);
    x.tell(1, 0);
    x.go(2);
    Due.is("m", x.mark(0, 3), 0);
    Due.is("n", x.mark(1, 3), 2);
  }

  // yield: "E of yield isn't 0 (GIVEN is more than STRIKES by 10, cut, without, with an ERROR)"

  /** The day behind which she yields; 0: not in 20. */
  private static int yielded(int strikes, String law) {
    GirlShots x = told("mark m " + strikes + " 3;party p m 1 99;" + law);
    x.tell(0, 0);
    for (int day = 1; day <= 20; day++) {
      x.go(1);
      if (x.mark(0, 2) == 1) return day;
    }
    return 0;
  }

  private static void edgeYieldWithoutALaw() {
    Due.is("0", yielded(0, ""), 1);
    Due.is("9, cut", yielded(9, ""), 1);
    Due.is("10", yielded(10, ""), 2);
    Due.is("19, cut", yielded(19, ""), 2);
    Due.is("20", yielded(20, ""), 3);
    Due.is("89", yielded(89, ""), 9);
    Due.is("90", yielded(90, ""), 10);
    Due.is("99", yielded(99, ""), 10);
  }

  private static void edgeYieldWithAnError() {
    for (int strikes : new int[] {0, 9, 10, 19, 20, 99}) Due.is("strikes " + strikes, yielded(strikes, "law yield 1/0;"), strikes / 10 + 1);
  }

  private static void edgeYieldByALaw() {
    Due.is("0", yielded(0, "law yield 0;"), 0);
    Due.is("1", yielded(99, "law yield 1;"), 1);
    Due.is("below 0", yielded(99, "law yield 0-1;"), 1);
    Due.is("2 to the 32", yielded(99, "law yield 256*256*256*256;"), 1);
    Due.is("this one, too", yielded(99, "law yield plums>=5;"), 5);
  }

  private static void edgeGivenOfAllPartiesYields() {
    GirlShots x = told("mark m 20 4;party p m 1 9;party q m 2 9;");
    x.tell(0, 0);
    x.go(1);
    Due.is("two given", x.mark(0, 2), 0);
    x.go(1);
    Due.is("p's is the third, q's the fourth", x.mark(0, 2), 2);
    Due.is("four given", x.mark(0, 3), 4);
  }

  // again: "the first by numbers whose E of again (put to 0 .. 999; COST without, with an ERROR) the PURSE has"

  /** Two shots that clash from the first day on; s costs 9 and t 5. */
  private static GirlShots clashing(String more) {
    GirlShots x = told("mark m 9 3;mark n 9 3;shot s 9 0;shot t 5 0;has s m 1;has t m 1;has t n 1;" + more);
    x.go(1);
    x.tell(0, 2);
    return x;
  }

  private static void again(String more, int s, int t, int purse) {
    GirlShots x = clashing(more);
    x.go(1);
    Due.is(more + " s", x.shot(0, 4), s);
    Due.is(more + " t", x.shot(1, 4), t);
    Due.is(more + " purse", x.count(9), purse);
    Due.is(more + " again", x.count(8), s + t);
  }

  private static void edgeThePurseHasJustTheCost() {
    again("purse 9;", 1, 0, 0);
  }

  private static void edgeThePurseHasOneLess() {
    again("purse 8;", 0, 1, 3);
    again("purse 5;", 0, 1, 0);
    again("purse 4;", 0, 0, 4);
    again("purse 0;", 0, 0, 0);
  }

  private static void edgeOneShotADay() {
    again("purse 999;", 1, 0, 990);
  }

  private static void edgeAgainByALaw() {
    again("purse 7;law again 7;", 1, 0, 0);
    again("purse 6;law again 7;", 0, 0, 6);
    again("purse 7;law again cost-1;", 0, 1, 3);
  }

  private static void edgeAgainPutTo0() {
    again("purse 0;law again 0;", 1, 0, 0);
    again("purse 7;law again 0-1;", 1, 0, 7);
    again("purse 7;law again 0-9999*9999*9999;", 1, 0, 7);
  }

  private static void edgeAgainPutTo999() {
    again("purse 999;law again 999;", 1, 0, 0);
    again("purse 999;law again 1000;", 1, 0, 0);
    again("purse 998;law again 1000;", 0, 0, 998);
    again("purse 999;law again 256*256*256*256;", 1, 0, 0);
    again("purse 999;law again 256*256*256*128;", 1, 0, 0);
    again("purse 998;law again 256*256*256*256+1;", 0, 0, 998);
  }

  private static void edgeAgainWithAnErrorIsTheCost() {
    again("purse 9;law again 1/0;", 1, 0, 0);
    again("purse 8;law again 1/(cost-9)*0;", 0, 1, 8);
  }

  private static void edgeAgainThoughSheIsAway() {
    again("purse 9;cold 1 9;", 1, 0, 0);
  }

  private static void edgeAgainOnlyWhatIsFilmed() {
    GirlShots x = told("mark m 9 3;shot s 9 5;has s m 1;");
    x.tell(0, 2);
    x.go(5);
    Due.is("not filmed", x.shot(0, 4), 0);
    Due.is("no clash", x.count(10), 0);
    x.go(1);
    Due.is("changed, not again", x.count(7) * 10 + x.count(8), 10);
  }

  private static void edgeAgainOnlyWhatClashes() {
    GirlShots x = told("mark m 9 3;shot s 9 0;has s m 1;");
    x.go(1);
    x.tell(0, 1);
    x.go(1);
    Due.is("no clash", x.count(8), 0);
    x.forget(0);
    x.go(1);
    Due.is("nothing said", x.count(8), 0);
  }

  private static void edgeAgainAllMarksOfWhichSheSaysSomething() {
    GirlShots x = told("mark m 9 3;mark n 9 3;mark o 9 3;mark q 9 3;shot s 9 0;shot t 9 0;has s m 0;has s n 0;has s o 0;has t q 0;");
    x.go(1);
    x.tell(0, 1);
    x.tell(1, 2);
    x.tell(3, 0);
    x.go(1);
    Due.is("m", x.way(0, 0), 1);
    Due.is("n", x.way(0, 1), 2);
    Due.is("o", x.way(0, 2), 0);
    Due.is("q isn't in it", x.way(0, 3), -2);
    Due.is("changed is something else", x.count(7), 0);
    Due.is("once", x.shot(0, 4), 1);
  }

  private static void edgeAgainOnTheDayOfFilming() {
    GirlShots x = told("mark m 9 3;shot s 9 0;has s m 1;cold 0 0;");
    x.tell(0, 2);
    x.go(1);
    Due.is("again", x.shot(0, 4), 1);
    Due.is("way", x.way(0, 0), 2);
  }

  private static void edgeAgainBehindYielding() {
    GirlShots x = behind(1, "mark m 50 3;shot s 9 0;has s m 1;party p m 2 9;law yield 1;");
    Due.is("she yields", x.mark(0, 2), 2);
    Due.is("again on the same day", x.shot(0, 4), 1);
  }

  private static void edgeAgainTwice() {
    GirlShots x = clashing("");
    x.go(2);
    x.tell(0, 0);
    x.go(2);
    Due.is("s", x.shot(0, 4), 2);
    Due.is("t", x.shot(1, 4), 2);
    Due.is("all", x.count(8), 4);
    Due.is("purse", x.count(9), 99 - 28);
  }

  // the last ones of all: the sixth mark, the eighth shot, the fourth party

  private static final String SIX = "mark a 1 6;mark b 2 6;mark c 3 6;mark d 4 6;mark e 5 6;mark f 96 6;";
  private static final String EIGHT = "shot a 1 0;shot b 1 0;shot c 1 0;shot d 1 0;shot e 1 0;shot f 1 0;shot g 1 0;shot h 8 0;";

  private static void edgeTheEighthShotIsFilmed() {
    GirlShots x = behind(1, SIX + EIGHT + "has h f 5;");
    Due.is("all", x.count(6), 8);
    Due.is("ahead", told(SIX + EIGHT).ahead(1, 0), 8);
    Due.is("f is in one", x.mark(5, 4), 1);
    Due.is("f is noticed", x.mark(5, 2), 5);
  }

  private static void edgeTheEighthShotClashes() {
    GirlShots x = behind(1, SIX + EIGHT + "has h a 5;");
    x.tell(0, 4);
    Due.is("a clash", x.count(10), 1);
    Due.is("ahead", x.ahead(0, 4), 1);
    Due.is("of h", x.shot(7, 3), 1);
    Due.is("least", x.least(0), 5);
    x.go(1);
    Due.is("again", x.shot(7, 4), 1);
    Due.is("purse", x.count(9), 91);
    Due.is("no clash", x.count(10), 0);
  }

  private static void edgeTheSixthMark() {
    GirlShots x = behind(1, SIX + "shot a 1 0;shot b 1 0;has a f 4;has b f 5;purse 0;");
    Due.is("says", x.mark(5, 2), 4);
    Due.is("changed", x.way(1, 5), 4);
    x.tell(5, 3);
    Due.is("clashes", x.count(10), 2);
    x = behind(1, SIX + "shot a 1 0;shot b 1 0;has a f 4;has b f 5;cold 0 0;");
    Due.is("it breaks", x.breaks(), 1);
    Due.is("a run of one", x.run(), 1);
  }

  private static void edgeTheSixthMarkOfAShotOfSix() {
    String six = "has a a 1;has a b 1;has a c 1;has a d 1;has a e 1;has a f 1;";
    GirlShots x = behind(1, SIX + EIGHT + six + "law again times*10+said;purse 0;cold 0 0;");
    Due.is("six marks", x.law(2, 0, 0), 60);
    for (int mark = 0; mark < 6; mark++) x.tell(mark, 0);
    Due.is("six clash", x.law(2, 0, 0), 66);
    Due.is("six clash", x.shot(0, 3), 6);
  }

  private static void edgePlumsForTheSixthMark() {
    GirlShots x = told(SIX + "shot a 1 9;party p a 1 9;party q b 1 9;party r c 1 9;party s f 1 9;law again plums;law yield plums>strike-90;");
    x.tell(5, 0);
    x.go(6);
    Due.is("given", x.mark(5, 3), 6);
    Due.is("by the fourth party", x.party(3, 3), 6);
    Due.is("all of them", x.law(2, 0, 0), 6);
    Due.is("not yet", x.mark(5, 2), 0);
    x.go(1);
    Due.is("seven are more than 96 less 90", x.mark(5, 2), 1);
  }

  private static void edgeWhatIsBehindTheSixthMarkStays() {
    GirlShots x = told(SIX + EIGHT + "has a f 1;has b a 1;has c a 1;has d f 2;purse 999;");
    x.move(1, 50);
    x.tell(5, 1);
    x.go(1);
    Due.is("only d is changed", x.count(7), 1);
    Due.is("a of b", x.way(1, 0), 1);
    x.tell(5, 3);
    x.go(2);
    Due.is("a and d again", x.count(8), 2);
    Due.is("a of b", x.way(1, 0), 1);
  }

  // NAMES

  private static long law(GirlShots x, int what) {
    return x.law(what, 0, 0);
  }

  private static void edgeStrikeOfAgainIs0() {
    GirlShots x = told("mark m 7 3;shot s 9 0;has s m 1;law notice strike;law yield strike;law again strike;");
    Due.is("notice", law(x, 0), 7);
    Due.is("yield", law(x, 1), 7);
    Due.is("again", law(x, 2), 0);
  }

  private static void edgeCostOfYieldIs0() {
    GirlShots x = told("mark m 7 3;shot s 9 0;has s m 1;law notice cost;law yield cost;law again cost;");
    Due.is("notice", law(x, 0), 9);
    Due.is("yield", law(x, 1), 0);
    Due.is("again", law(x, 2), 9);
  }

  private static void edgePlumsOfYieldWithThisOneOfAgainAllOfThem() {
    GirlShots x = told("mark m 99 3;mark n 99 3;shot s 9 9;has s m 1;party p m 1 9;party q n 1 9;law notice plums;law yield plums/99;law again plums;");
    GirlShots y = told("mark m 99 3;mark n 99 3;party p m 1 9;party q n 1 9;law yield plums*(plums<>3);");
    Due.is("notice, none", law(x, 0), 0);
    Due.is("yield, this one", law(y, 1), 1);
    Due.is("again, none", law(x, 2), 0);
    x.tell(0, 0);
    x.tell(1, 0);
    x.go(3);
    Due.is("notice, of m", law(x, 0), 3);
    Due.is("again, of both", law(x, 2), 6);
    y.tell(0, 0);
    y.go(1);
    Due.is("yield, this one too", law(y, 1), 2);
    Due.is("yield, of n", y.law(1, 0, 1), 1);
  }

  private static void edgePlumsOfYieldOnTheDay() {
    GirlShots x = told("mark m 99 3;party p m 1 9;law yield plums=3;");
    x.tell(0, 0);
    x.go(2);
    Due.is("not by the second", x.mark(0, 2), 0);
    Due.is("by the third one", x.law(1, 0, 0), 1);
    x.go(1);
    Due.is("by the third", x.mark(0, 2), 1);
  }

  private static void edgeSaidIs1Or0() {
    GirlShots x = told("mark m 7 3;mark n 7 3;shot s 9 0;has s m 1;has s n 1;law notice said;law yield said;law again said;");
    Due.is("notice 0", law(x, 0), 0);
    Due.is("yield 0", law(x, 1), 0);
    x.tell(0, 0);
    Due.is("notice 1 of way 0", law(x, 0), 1);
    Due.is("yield 1 of way 0", law(x, 1), 1);
    x.tell(0, 2);
    Due.is("notice 1 of way 2", law(x, 0), 1);
    Due.is("yield 1 of way 2", law(x, 1), 1);
    Due.is("of n", x.law(1, 0, 1), 0);
  }

  private static void edgeSaidOfAgainIsHowManyClash() {
    GirlShots x = told("mark m 7 3;mark n 7 3;shot s 9 0;has s m 1;has s n 1;purse 0;law again said+1;");
    x.go(1);
    Due.is("nothing said", law(x, 2), 1);
    x.tell(0, 1);
    Due.is("as she says", law(x, 2), 1);
    x.tell(1, 0);
    Due.is("one", law(x, 2), 2);
    x.tell(0, 0);
    Due.is("two", law(x, 2), 3);
  }

  private static void edgeTimesOfNoticeIsWithoutThisShot() {
    GirlShots x = told("mark m 7 3;mark n 7 3;shot s 9 0;shot t 9 0;shot u 9 1;has s m 1;has t m 1;has u m 1;has u n 1;law notice times*9/99;");
    GirlShots y = told("mark m 7 3;mark n 7 3;shot s 9 0;shot t 9 0;shot u 9 1;has s m 1;has t m 1;has u m 1;has u n 1;law notice times*(day<>0)+(times>9);");
    Due.is("none filmed", y.law(0, 0, 0), 0);
    y.go(1);
    Due.is("s without s", y.law(0, 0, 0), 1);
    Due.is("u with both", y.law(0, 2, 0), 2);
    Due.is("n is in none", y.law(0, 2, 1), 0);
    y.go(1);
    Due.is("u without u", y.law(0, 2, 0), 2);
    Due.is("n without u", y.law(0, 2, 1), 0);
    x.go(2);
    Due.is("times 9 by 99", x.law(0, 2, 0), 0);
    Due.is("on the day of the first", behind(1, "mark m 7 3;shot s 9 0;has s m 1;law notice times;").mark(0, 2), -1);
    Due.is("on the day of both", behind(1, "mark m 7 3;shot s 9 0;shot t 9 0;has s m 1;has t m 2;law notice times;").mark(0, 2), 2);
  }

  private static void edgeTimesOfYieldIsInHowManyFilmedShots() {
    GirlShots x = told("mark m 7 3;mark n 7 3;shot s 9 0;shot t 9 0;shot u 9 1;has s m 1;has t m 1;has u m 1;has u n 1;law yield times;");
    for (int filmed : new int[] {0, 2, 3}) {
      Due.is("m", x.law(1, 0, 0), filmed);
      Due.is("n", x.law(1, 0, 1), filmed / 3);
      x.go(1);
    }
  }

  private static void edgeTimesOfAgainIsHowManyMarksTheShotHas() {
    GirlShots x = told("mark m 7 3;mark n 7 3;shot s 9 0;shot t 9 0;shot u 9 0;has s m 1;has t m 0;has t n 0;law again times;");
    for (int shot = 0; shot < 3; shot++) Due.is("shot " + shot, x.law(2, shot, 0), shot == 2 ? 0 : shot + 1);
  }

  private static void edgeDayIsThisOne() {
    GirlShots x = told("mark m 7 3;shot s 9 3;has s m 1;law notice day=3;law yield day;");
    Due.is("0", x.law(1, 0, 0), 0);
    x.go(3);
    Due.is("3", x.law(1, 0, 0), 3);
    x.go(1);
    Due.is("noticed on day 3", x.mark(0, 2), 1);
  }

  private static void edgeAwayIsDaysInARowThisOneToo() {
    int[] dayOf = {4, 1, 2, 3};
    for (int away = 0; away < 4; away++) {
      GirlShots x = told("mark m 9 3;shot s 9 0;has s m 1;law again 1000*(away<>" + away + ");cold 1 2;cold 3 3;");
      x.go(1);
      x.tell(0, 2);
      for (int day = 1; day <= 4; day++) {
        x.go(1);
        Due.is("away " + away + " behind day " + day, x.count(8), day >= dayOf[away] ? 1 : 0);
      }
    }
  }

  private static void edgeAwayIs0WhenSheIsThere() {
    GirlShots x = told("mark m 9 3;law yield away;cold 1 2;cold 4 4;");
    int[] want = {0, 0, 1, 2, 0, 1, 0};
    for (int day = 0; day < 7; day++) {
      Due.is("behind " + day, x.law(1, 0, 0), want[day]);
      x.go(1);
    }
  }

  // VALUES: "comparisons, and, or, not are 1 or 0 (what isn't 0 is as 1, both sides are worked out), / is cut towards 0"

  private static void side(String side, long want) {
    Due.is(side, told("mark m 7 2;law yield " + side + ";").law(1, 0, 0), want);
  }

  private static void edgeComparisonsAre1Or0() {
    String[] signs = {"<", "<=", "=", "<>", ">=", ">"};
    int[][] want = {{1, 0, 0}, {1, 1, 0}, {0, 1, 0}, {1, 0, 1}, {0, 1, 1}, {0, 0, 1}};
    for (int k = 0; k < 6; k++) for (int a = 4; a < 7; a++) side(a + signs[k] + "5", want[k][a - 4]);
    for (int k = 0; k < 6; k++) for (int a = 4; a < 7; a++) side("0-" + a + signs[k] + "0-5", want[k][6 - a]);
  }

  private static void edgeWhatIsNot0IsAs1() {
    side("7 and 0-7", 1);
    side("2 and 4", 1);
    side("0 and 7", 0);
    side("7 and 0", 0);
    side("0 and 0", 0);
    side("7 or 0", 1);
    side("0 or 0-7", 1);
    side("1 or 1", 1);
    side("0 or 0", 0);
    side("not 7", 0);
    side("not (0-7)", 0);
    side("not 0", 1);
    side("not not 7", 1);
    side("256*256*256*256 and 256*256*256*256", 1);
    side("not (256*256*256*256)", 0);
    side("0 or 256*256*256*256", 1);
  }

  private static void edgeBothSidesAreWorkedOut() {
    side("0 and 1/0", ERROR);
    side("1/0 and 0", ERROR);
    side("1 or 1/0", ERROR);
    side("1/0 or 1", ERROR);
    side("0*(1/0)", ERROR);
    side("not (1/0)", ERROR);
    side("1/0=1/0", ERROR);
  }

  private static void edgeHowCloselySignsBind() {
    side("1 or 1 and 0", 1);
    side("0 and 1 or 1", 1);
    side("0 and 0 or 1 and 1", 1);
    side("not 0 and 0", 0);
    side("not 1 or 1", 1);
    side("not 2=3", 1);
    side("1+1=2", 1);
    side("2=1+1", 1);
    side("1+2*3", 7);
    side("2*3+1", 7);
    side("9-3-2", 4);
    side("9-3+2", 8);
    side("100/7/2", 7);
    side("2*9/4", 4);
    side("9/4*2", 4);
    side("1<2 and 2<1", 0);
    side("3-2<1 or 0", 0);
    side("(1 or 1) and 0", 0);
    side("(1+2)*3", 9);
    side("9-(3-2)", 8);
    side("(7 or 0)*3", 3);
    side("(0 or 7)+5", 6);
    side("(7 and 2)*3", 3);
    side("(1<2)+4", 5);
    side("(not 0)+4", 5);
    side("9-(3 or 4 and 0)", 8);
  }

  private static void edgeValueOf64Knots() {
    side("1" + "+1".repeat(30) + "-9", 31 - 9);
    side("not 1" + "+1".repeat(30) + "-31", 1);
    side("not 1" + "+1".repeat(30) + "-30", 0);
    side("0-1" + "+1".repeat(29) + "+7", 35);
    side("not ".repeat(63) + "0", 1);
    side("not ".repeat(62) + "0", 0);
    side("not (".repeat(8) + "not ".repeat(55) + "0" + ")".repeat(8), 1);
    side("not (".repeat(8) + "not ".repeat(54) + "0" + ")".repeat(8), 0);
    side("1-(".repeat(8) + "1" + "+1".repeat(23) + ")".repeat(8), 24);
  }

  private static void edgeCutTowards0() {
    side("7/2", 3);
    side("(0-7)/2", -3);
    side("7/(0-2)", -3);
    side("(0-7)/(0-2)", 3);
    side("1/2", 0);
    side("(0-1)/2", 0);
    side("0/5", 0);
    side("0-7/2", -3);
  }

  private static void edgeDividedBy0() {
    side("1/0", ERROR);
    side("0/0", ERROR);
    side("1/(3-3)", ERROR);
    side("1/(0*9)", ERROR);
    side("(1/0)*0", ERROR);
  }

  // "a value above 10 to the 12 or below 0 by more than that"

  private static final String MOST = "1000*1000*1000*1000";

  private static void edgeTenToThe12() {
    side(MOST, 1000000000000L);
    side(MOST + "+0", 1000000000000L);
    side(MOST + "+1", ERROR);
    side("1+" + MOST, ERROR);
    side(MOST + "*1", 1000000000000L);
    side(MOST + "*2", ERROR);
    side("1*1000*1000*1000*1001", ERROR);
    side("9999*9999*100*100+9*9999*2222", 1000000000000L - (1000000000000L - 999800010000L) + 9L * 9999 * 2222);
  }

  private static void edgeBelow0ByTenToThe12() {
    side("0-" + MOST, -1000000000000L);
    side("0-" + MOST + "-0", -1000000000000L);
    side("0-" + MOST + "-1", ERROR);
    side("(0-1000)*1000*1000*1000", -1000000000000L);
    side("(0-1001)*1000*1000*1000", ERROR);
    side("1000*1000*1000*(0-1000)", -1000000000000L);
    side("1000*1000*1000*(0-1001)", ERROR);
    side("(0-1000)*1000*1000*(0-1000)", 1000000000000L);
    side("(0-1000)*1000*1000*(0-1001)", ERROR);
  }

  private static void edgeAnErrorInsideIsAnErrorOfAll() {
    side("(" + MOST + "+1)-1", ERROR);
    side("(" + MOST + "*10)/10", ERROR);
    side("(" + MOST + "+1)*0", ERROR);
    side("(" + MOST + "+1)<0", ERROR);
    side("not (" + MOST + "+1)", ERROR);
    side("0-(" + MOST + "+1)", ERROR);
    side("1+(0-" + MOST + "-1)", ERROR);
  }

  private static void edgeProductsDoNotWrapAround() {
    String two32 = "(256*256*256*256)";
    side(two32, 1L << 32);
    side(two32 + "*" + two32, ERROR);
    side(two32 + "*(0-" + two32 + ")", ERROR);
    side("(0-" + two32 + ")*(0-" + two32 + ")", ERROR);
    side(two32 + "*(256*256*256*128)", ERROR);
    side("(" + MOST + ")*(" + MOST + ")", ERROR);
    side("(0-" + MOST + ")*(" + MOST + ")", ERROR);
    side(two32 + "*(" + two32 + "+1)", ERROR);
    side(two32 + "*0", 0);
    side("0*" + two32, 0);
    side("(0-" + MOST + ")*1", -1000000000000L);
    side("(0-1)*(" + MOST + ")", -1000000000000L);
  }

  private static void edgeValuesBeyondAnInt() {
    side("9999*9999*99", 9899 * 1000000L + 9999L * 9999 * 99 - 9899 * 1000000L);
    side("256*256*256*128", 1L << 31);
    side("0-256*256*256*128-1", -(1L << 31) - 1);
    side("256*256*256*256=0", 0);
    side("256*256*256*256+5>5", 1);
    side("256*256*256*256*2/2", 1L << 32);
  }

  // "AS IT GOES: without numbers: she is AWAY out of a cold, if ill is 50 at least."

  private static final String STILL = "mark m 50 3;shot s 1 0;has s m 0;shot t 1 0;has t m 1;purse 0;";

  private static void edgeAsItGoesAwayFromIll50On() {
    for (int ill : new int[] {0, 1, 49, 50, 51, 99, 100})
      Due.is("ill " + ill, told(STILL + "ill " + ill + ";").ahead(1, 1), ill < 50 ? 1 : 0);
  }

  private static void edgeAsItGoesAwayInACold() {
    for (int ill : new int[] {0, 49, 50, 100})
      Due.is("ill " + ill, told(STILL + "cold 0 0;ill " + ill + ";").ahead(1, 1), 0);
    Due.is("behind it", told(STILL + "cold 1 1;").ahead(1, 1), 1);
  }

  private static void edgeAsItGoesWithoutNumbers() {
    GirlShots x = told("ill 40;seed 9;mark m 9 3;party p m 1 50;law yield 0;");
    GirlShots y = told("ill 40;seed 9;mark m 9 3;party p m 1 50;law yield 0;");
    x.tell(0, 0);
    y.tell(0, 0);
    for (int day = 0; day < 40; day++) {
      x.ahead(99, 0);
      x.agrees();
      x.order(4);
      x.bribe(0);
      x.without(5);
      x.tried(0, 0, 9);
      x.chance(3, 9, 1);
      x.go(1);
      y.go(1);
      Due.is("day " + day, x.count(11), y.count(11));
      Due.is("given " + day, x.mark(0, 3), y.mark(0, 3));
    }
  }

  private static void edgeAwayRowGoesOnAsItGoes() {
    GirlShots x = told("mark m 9 3;shot s 9 0;has s m 1;cold 0 3;purse 5;law again 1000*(away<>3);");
    x.tell(0, 2);
    x.go(1);
    Due.is("not on the second day", x.ahead(1, 2), 0);
    Due.is("on the third", x.ahead(2, 2), 1);
  }
}
