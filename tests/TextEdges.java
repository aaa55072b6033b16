/** The boundary cases of the terms of a TEXT, of its FAULTS and of promises 1 to 5, a method each. */
public final class TextEdges {
  private static final String[] LANGUAGE = {"mark", "shot", "has", "party", "clerk", "cold", "ill", "purse", "seed", "law", "notice",
      "yield", "again", "or", "and", "not", "strike", "plums", "said", "times", "cost", "day", "away"};
  private static final String PAIR = "mark m 1 2;shot s 1 0;";
  /** Beyond every number: also those that are 0 or 1 again in 31, 32, 63, 64 or 128 bits. */
  private static final String[] HUGE = {"2147483647", "2147483648", "2147483649", "4294967295", "4294967296", "4294967297", "9223372036854775808",
      "9223372036854775809", "18446744073709551616", "18446744073709551617", "340282366920938463463374607431768211457", "99999999999999999999999999999999999999"};

  private TextEdges() { }

  public static void main(String[] args) {
    Cases.run(TextEdges.class);
  }

  private static void good(String text) {
    bad(text, 0, -1);
  }

  private static void bad(String text, int fault, int place) {
    GirlShots x = new GirlShots();
    int lines = Feeder.read(x, text);
    Due.is("text " + text, lines < 0 ? lines : 0, fault == 0 ? 0 : -1);
    Due.is("fault of " + text, x.fault(0), fault);
    Due.is("place of " + text, x.fault(1), place);
  }

  private static void tooMuch(String text, int place) {
    bad(text, 2, place);
  }

  /** The N behind a beginning: the least and the most that are good, and what is beyond. */
  private static void numberOf(String before, int least, int most, String behind) {
    good(before + least + behind);
    good(before + most + behind);
    good(before + "000000000000000000000" + most + behind);
    if (least > 0) tooMuch(before + (least - 1) + behind, before.length());
    tooMuch(before + (most + 1) + behind, before.length());
    for (String huge : HUGE) tooMuch(before + huge + behind, before.length());
  }

  private static String times(int count, String line) {
    StringBuilder all = new StringBuilder();
    for (int k = 0; k < count; k++) all.append(line.replace('?', (char) ('a' + k)));
    return all.toString();
  }

  // Promise 1: "A TEXT without LINES; an empty TAPE."

  private static void edgeNewObjectHasNoLines() {
    GirlShots x = new GirlShots();
    for (int what = 0; what < 15; what++) Due.is("count " + what, x.count(what), what == 9 ? 99 : 0);
    Due.is("fault", x.fault(0), 0);
    Due.is("place", x.fault(1), -1);
    for (int what = 0; what < 4; what++) Due.is("named", x.named(what, 0), -1);
    Due.is("shot", x.shot(0, 0), -1);
    Due.is("way", x.way(0, 0), -1);
    Due.is("party", x.party(0, 0), -1);
    Due.is("clerk", x.clerk(0), -1);
  }

  private static void edgeNewObjectHasAnEmptyTape() {
    GirlShots x = new GirlShots();
    Due.is("one byte", x.text(1), -2);
    Due.is("none", x.text(0), 0);
  }

  private static void edgeQuestionsOfANewObject() {
    GirlShots x = new GirlShots();
    long[][] wants = {{x.ahead(0, 0), 0}, {x.ahead(99, 3), 99}, {x.ahead(99, 4), 0}, {x.breaks(), 0}, {x.agrees(), 0}, {x.least(0), -2}, {x.least(5), -2}, {x.least(6), 0},
        {x.order(0), -2}, {x.order(3), -2}, {x.order(4), 0}, {x.noted(), 0}, {x.bribe(0), -1}, {x.rests(0, 1), -1}, {x.rest(0, 1, 0), -1}, {x.there(6, 0), 1},
        {x.there(6, 1), 1}, {x.without(99), 0}, {x.run(), 0}, {x.believed(), 0}, {x.struckHow(0), -1}, {x.chance(0, 1, 0), 10}, {x.chance(0, 99, 1), 0},
        {x.tried(0, 0, 99), 0}, {x.tried(2, 0, 1), -1}, {x.undo(), -1}, {x.back(), -1}, {x.see(1, 0, true), -1}, {x.out(0), -1}, {x.keep(), 0}, {x.back(), 0}};
    for (int k = 0; k < wants.length; k++) Due.is("question " + k, wants[k][0], wants[k][1]);
    for (int what = 0; what < 3; what++) Due.is("law " + what, x.law(what, 0, 0), Long.MIN_VALUE);
    Due.is("known by none", x.known(0), true);
    Due.is("known by one", x.known(1), false);
    Due.is("days", x.go(99), 99);
  }

  // Promise 2: "NONE, and none come, if it would have more than 700."

  private static void edgeTapeOf700IsFull() {
    GirlShots x = new GirlShots();
    for (int k = 1; k <= 35; k++) Due.is("feed " + k, x.feed(0x20202020, 0x20202020, 0x20202020, 0x20202020, 0x20202020), 20 * k);
    for (int k = 0; k < 3; k++) Due.is("no more", x.feed(0x3b3b3b3b, 0, 0, 0, 0), -1);
    Due.is("none came", x.text(701), -2);
    Due.is("700 blanks", x.text(700), 0);
    Due.is("room again", x.feed(0, 0, 0, 0, 0), 20);
  }

  private static void edgeTheLastByteOfAFullTapeIsRead() {
    GirlShots x = new GirlShots();
    for (int k = 1; k < 35; k++) x.feed(0x20202020, 0x20202020, 0x20202020, 0x20202020, 0x20202020);
    x.feed(0x20202020, 0x20202020, 0x20202020, 0x20696c6c, 0x2037373b);
    Due.is("to the end", x.text(700), 1);
    Due.is("ill 77", x.there(1, 0), 23);
  }

  private static void edgeTheHighestByteGoesFirst() {
    GirlShots x = new GirlShots();
    x.feed(0x696c6c20, 0x313b7075, 0x72736520, 0x33343b20, 0x20202020);
    Due.is("two lines", x.text(20), 2);
    Due.is("purse", x.count(9), 34);
    Due.is("ill", x.there(1, 0), 99);
  }

  private static void edgeBytesBelow0AreAbove127() {
    GirlShots x = new GirlShots();
    x.feed(-1, Integer.MIN_VALUE, 0, Integer.MAX_VALUE, -2);
    Due.is("none is a token", x.text(20), -1);
    Due.is("at the first one", x.fault(1), 0);
    Due.is("1", x.fault(0), 1);
  }

  // Promise 3: "NONE with a FAULT, all else stays; -2, and the TAPE stays: there are not so many, n is below 0."

  private static void edgeTextOfMoreThanTheTape() {
    GirlShots x = new GirlShots();
    Feeder.feed(x, "ill 7;");
    for (int n : new int[] {21, 700, 701, Integer.MAX_VALUE}) Due.is("not so many " + n, x.text(n), -2);
    Due.is("the tape stays", x.text(20), 1);
  }

  private static void edgeTextBelow0() {
    GirlShots x = new GirlShots();
    Feeder.feed(x, "ill 7;");
    for (int n : new int[] {-1, -20, Integer.MIN_VALUE}) Due.is("below 0: " + n, x.text(n), -2);
    Due.is("the tape stays", x.feed(0, 0, 0, 0, 0), 40);
    Due.is("the tape stays", x.text(20), 1);
  }

  private static void edgeTextOfNoBytes() {
    GirlShots x = Feeder.told("mark a 1 2;");
    Feeder.feed(x, "mark b 1 2;");
    Due.is("no lines", x.text(0), 0);
    Due.is("no marks", x.count(0), 0);
    Due.is("the tape is empty", x.text(1), -2);
  }

  private static void edgeTextOfNotAllBytes() {
    GirlShots x = new GirlShots();
    Feeder.feed(x, "ill 7;ill 8;");
    Due.is("one line", x.text(6), 1);
    Due.is("the tape is empty", x.text(1), -2);
    Feeder.feed(x, "law yield 1<2;");
    Due.is("cut behind <", x.text(12), -1);
    Due.is("more must come", x.fault(0), 1);
    Due.is("at the length", x.fault(1), 12);
    Feeder.feed(x, "law yield 1<=2;");
    Due.is("cut between < and =", x.text(12), -1);
    Due.is("at the length", x.fault(1), 12);
    Feeder.feed(x, "purse 12;");
    Due.is("cut in a number", x.text(7), -1);
    Due.is("at the length", x.fault(1), 7);
  }

  private static void edgeTheTapeIsEmptyBehindAFault() {
    GirlShots x = new GirlShots();
    Feeder.feed(x, "ill 101;");
    Due.is("a fault", x.text(8), -1);
    Due.is("empty", x.text(1), -2);
    Due.is("from the first byte on", x.feed(0x696c6c20, 0x313b2020, 0, 0, 0), 20);
    Due.is("a line", x.text(8), 1);
  }

  private static void edgeAllElseStaysWithAFault() {
    GirlShots x = Feeder.told("mark hat 60 3;shot one 10 0;has one hat 2;party p hat 1 9;clerk c 5;purse 33;law yield plums>4;");
    x.go(1);
    x.keep();
    x.plums(0, 3);
    x.move(0, 5);
    x.see(1, 0, true);
    x.see(2, 0, true);
    x.known(1);
    Due.is("a fault", Feeder.read(x, "mark a 1 2;mark b 1 2;shot s 9 9;clerk d 1;ill 50;purse 1;law again 1;law notice 1;?"), -1);
    int[] want = {1, 1, 1, 1, 3, 1, 1, 0, 0, 33, 0, 0, 2, 1, 1};
    for (int what = 0; what < 15; what++) Due.is("count " + what, x.count(what), want[what]);
    Due.is("named", x.named(0, Feeder.name("hat")), 0);
    Due.is("not named", x.named(0, Feeder.name("a")), -1);
    Due.is("way", x.way(0, 0), 2);
    Due.is("says", x.mark(0, 2), 2);
    Due.is("clerk", x.clerk(0), 5);
    Due.is("law", x.law(1, 0, 0), 0);
    Due.is("no such law", x.law(2, 0, 0), Long.MIN_VALUE);
    Due.is("ill", x.there(1, 0), 1);
    Due.is("undo", x.undo(), 0);
    Due.is("image", x.back(), 1);
  }

  private static void edgeTheTextBeginsAnew() {
    String film = "mark hat 60 3;shot one 10 0;shot two 10 1;has one hat 2;has two hat 1;party p hat 1 9;cold 1 1;";
    GirlShots x = Feeder.told(film + "purse 10;");
    x.go(3);
    x.see(1, 0, true);
    x.see(1, 0, false);
    x.known(1);
    x.keep();
    x.plums(0, 5);
    Due.is("lines", Feeder.read(x, film), 7);
    int[] want = {1, 2, 1, 0, 0, 0, 0, 0, 0, 99, 0, 0, 0, 0, 0};
    for (int what = 0; what < 15; what++) Due.is("count " + what, x.count(what), want[what]);
    Due.is("says nothing", x.mark(0, 2), -1);
    Due.is("nothing given", x.mark(0, 3), 0);
    Due.is("not filmed", x.shot(0, 2), 0);
    Due.is("not again", x.shot(1, 4), 0);
    Due.is("as told", x.way(1, 0), 1);
    Due.is("plums as told", x.party(0, 2), 9);
    Due.is("gave none", x.party(0, 3), 0);
    Due.is("no image", x.back(), -1);
    Due.is("nothing to undo", x.undo(), -1);
    x.see(1, 0, true);
    Due.is("all known, also those to come", x.count(13), 1);
  }

  private static void edgeWhatIsNotToldAnewIsAsWithout() {
    GirlShots x = Feeder.told("mark a 9 2;shot s 9 9;has s a 1;party p a 1 9;clerk c 1;cold 0 99;ill 100;purse 7;seed 5;law notice 1;law yield 1;law again 1;");
    Due.is("blanks alone", Feeder.read(x, " \n "), 0);
    for (int what = 0; what < 15; what++) Due.is("count " + what, x.count(what), what == 9 ? 99 : 0);
    Due.is("ill 0", x.there(1, 0), 1);
    x.go(9);
    Due.is("no cold", x.count(11), 0);
    Feeder.read(x, "mark a 9 2;shot s 9 9;");
    for (int what = 0; what < 3; what++) Due.is("no law", x.law(what, 0, 0), Long.MIN_VALUE);
    Due.is("not in it", x.way(0, 0), -2);
  }

  private static void edgeWhatWasCountedBeginsAnew() {
    String film = "mark m 99 3;shot s 9 0;shot t 9 0;shot u 9 1;has s m 0;has t m 1;has u m 2;cold 1 5;law notice away<1;law yield away;";
    GirlShots x = Feeder.told(film + "purse 50;");
    x.go(4);
    Due.is("changed", x.count(7), 1);
    Due.is("again", x.count(8), 1);
    Due.is("away", x.count(11), 3);
    Due.is("away in a row", x.law(1, 0, 0), 3);
    x.see(1, 0, true);
    Due.is("seen from the text on, she wasn't away ahead of it", x.struckHow(0), 1023);
    Feeder.read(x, film);
    for (int what = 5; what < 15; what++) Due.is("count " + what, x.count(what), what == 9 ? 99 : 0);
    Due.is("away in a row", x.law(1, 0, 0), 0);
    Due.is("again of u", x.shot(2, 4), 0);
  }

  private static void edgeSeedWithoutIs0() {
    GirlShots x = Feeder.told("ill 50;");
    GirlShots y = Feeder.told("ill 50;seed 0;");
    GirlShots z = Feeder.told("ill 50;seed 1;");
    boolean other = false;
    for (int k = 0; k < 60; k++) {
      x.go(1);
      y.go(1);
      z.go(1);
      Due.is("day " + k, x.count(11), y.count(11));
      other |= x.count(11) != z.count(11);
    }
    Due.is("seed 1 is another one", other, true);
  }

  /** All that a text may have, at most. */
  private static String fullest() {
    StringBuilder text = new StringBuilder(times(6, "mark ? 1 6;") + times(8, "shot ? 1 2;"));
    for (int k = 0; k < 20; k++) text.append("has ").append((char) ('a' + k % 8)).append(' ').append((char) ('a' + k / 8)).append(" 5;");
    text.append(times(4, "party ? a 5 9;")).append(times(4, "clerk ? 1;")).append(times(3, "cold 1 1;")).append("ill 9;purse 9;seed 9;");
    text.append("law notice ").append(side(21)).append(";law yield not ").append(side(21)).append(";law again ").append(side(21)).append(';');
    return text.toString().replace("day", "1");
  }

  private static void edgeTheFullestText() {
    GirlShots x = Feeder.told(fullest());
    int[] want = {6, 8, 4, 4, 64};
    for (int what = 0; what < 5; what++) Due.is("count " + what, x.count(what), want[what]);
    int pairs = 0;
    for (int shot = 0; shot < 8; shot++) for (int mark = 0; mark < 6; mark++) pairs += x.way(shot, mark) == 5 ? 1 : 0;
    Due.is("pairs", pairs, 20);
  }

  private static void edgeTheFullestTextAgain() {
    GirlShots x = new GirlShots();
    for (int k = 0; k < 5; k++) Due.is("lines", Feeder.read(x, fullest()), 6 + 8 + 20 + 4 + 4 + 3 + 3 + 3);
  }

  private static void edgeTheFullestTextBehindAFaultOfIt() {
    String text = fullest();
    GirlShots x = new GirlShots();
    Due.is("short", text.length() < 680, true);
    Due.is("a fault at its end", Feeder.read(x, text + "?"), -1);
    Due.is("lines", Feeder.read(x, text), 51);
    for (int n = 0; n <= text.length(); n += 23) {
      Feeder.feed(x, text);
      boolean whole = n == 0 || text.charAt(n - 1) == ';';
      Due.is("cut at " + n, x.text(n) >= 0, whole);
      Due.is("fault", x.fault(0), whole ? 0 : 1);
      Due.is("lines", Feeder.read(x, text), 51);
    }
  }

  private static void edgeAFaultInBracketsLeavesNoneOpen() {
    GirlShots x = new GirlShots();
    for (String fault : new String[] {"law yield ((((((((1", "law yield (((((((((", "law yield (?"}) {
      Due.is(fault, Feeder.read(x, fault), -1);
      Due.is("eight", Feeder.read(x, "law yield ((((((((1))))))));"), 1);
      Due.is("none", Feeder.read(x, "law yield 1);"), -1);
      Due.is("at it", x.fault(1), 11);
    }
  }

  private static void edgeAFaultBehindSignsLeavesNoneWaiting() {
    for (String fault : new String[] {"law yield 7*", "law yield 7 and ", "law yield not ", "law yield not not not (7+1*?", "law yield 1 or 7-9*?", "law yield 1+1<?"}) {
      GirlShots x = new GirlShots();
      Due.is(fault, Feeder.read(x, "law notice 1+1<2 and 7;" + fault), -1);
      Due.is("lines", Feeder.read(x, "mark m 9 2;law yield 1+2*3;"), 2);
      Due.is("seven", x.law(1, 0, 0), 7);
      Due.is("knots", x.count(4), 5);
    }
  }

  private static void edgeASideLeavesNothingToTheNextOne() {
    GirlShots x = Feeder.told("mark m 9 2;shot s 1 9;has s m 1;law notice not (1+2*3<7);law yield 9-3-2;law again 8;");
    Due.is("notice", x.law(0, 0, 0), 1);
    Due.is("yield", x.law(1, 0, 0), 4);
    Due.is("again", x.law(2, 0, 0), 8);
  }

  // Promise 4: "Of the latest text() that was not -2 ... (NONE without). NONE for another what."

  private static void edgeNoFaultNoPlace() {
    GirlShots x = Feeder.told("ill 7;");
    Due.is("0", x.fault(0), 0);
    Due.is("NONE", x.fault(1), -1);
  }

  private static void edgeFaultStaysBehindMinus2() {
    GirlShots x = new GirlShots();
    Feeder.read(x, "ill 101;");
    x.text(1);
    x.text(-1);
    Due.is("2", x.fault(0), 2);
    Due.is("4", x.fault(1), 4);
  }

  private static void edgeFaultOfTheLatestText() {
    GirlShots x = new GirlShots();
    Feeder.read(x, "ill 101;");
    Feeder.read(x, "?");
    Due.is("1", x.fault(0), 1);
    Due.is("0", x.fault(1), 0);
    x.text(0);
    Due.is("0", x.fault(0), 0);
    Due.is("NONE", x.fault(1), -1);
  }

  private static void edgeFaultOfAnotherWhat() {
    GirlShots x = new GirlShots();
    Feeder.read(x, "ill 101;");
    for (int what : new int[] {-1, 2, 3, Integer.MIN_VALUE, Integer.MAX_VALUE}) Due.is("what " + what, x.fault(what), -1);
  }

  // Promise 5: "NONE: there is none such."

  private static void edgeNamedByAnotherKind() {
    GirlShots x = Feeder.told("mark m 1 2;shot s 1 0;party p m 0 0;clerk c 0;");
    String[] names = {"m", "s", "p", "c"};
    for (int what = 0; what < 4; what++) for (int name = 0; name < 4; name++)
      Due.is(what + " " + names[name], x.named(what, Feeder.name(names[name])), what == name ? 0 : -1);
  }

  private static void edgeNamedWithAnotherWhat() {
    GirlShots x = Feeder.told("mark m 1 2;shot m 1 0;party m m 0 0;clerk m 0;");
    for (int what : new int[] {-1, 4, Integer.MIN_VALUE, Integer.MAX_VALUE}) Due.is("what " + what, x.named(what, Feeder.name("m")), -1);
  }

  private static void edgeNamedByNoLetters() {
    GirlShots x = Feeder.told("mark m 1 2;");
    for (int letters : new int[] {0, -1, 13, 1 << 30, Feeder.name("m") + (1 << 30), Feeder.name("m") - (1 << 31), Feeder.name("m") | 1, Integer.MAX_VALUE, Integer.MIN_VALUE})
      Due.is("letters " + letters, x.named(0, letters), -1);
  }

  private static void edgeNamedByOneLetterAndBySix() {
    GirlShots x = Feeder.told("mark z 1 2;mark zzzzzz 1 2;mark zzzzz 1 2;mark a 1 2;mark aaaaaa 1 2;mark azazaz 1 2;");
    Due.is("z", x.named(0, 26 << 25), 0);
    Due.is("zzzzzz", x.named(0, 26 << 25 | 26 << 20 | 26 << 15 | 26 << 10 | 26 << 5 | 26), 1);
    Due.is("zzzzz", x.named(0, 26 << 25 | 26 << 20 | 26 << 15 | 26 << 10 | 26 << 5), 2);
    Due.is("a", x.named(0, 1 << 25), 3);
    Due.is("aaaaaa", x.named(0, 1 << 25 | 1 << 20 | 1 << 15 | 1 << 10 | 1 << 5 | 1), 4);
    Due.is("azazaz", x.named(0, 1 << 25 | 26 << 20 | 1 << 15 | 26 << 10 | 1 << 5 | 26), 5);
  }

  private static void edgeNamedTheLastOfAll() {
    GirlShots x = Feeder.told(times(6, "mark ? 1 2;") + times(8, "shot ? 1 2;") + times(4, "party ? a 0 0;") + times(4, "clerk ? 0;"));
    int[] counts = {6, 8, 4, 4};
    for (int what = 0; what < 4; what++) {
      for (int k = 0; k < counts[what]; k++) Due.is(what + " " + k, x.named(what, Feeder.name(String.valueOf((char) ('a' + k)))), k);
      Due.is(what + " beyond", x.named(what, Feeder.name(String.valueOf((char) ('a' + counts[what])))), -1);
    }
  }

  // "W: one of 1 .. 6 letters, none of those of the language"; "a word of more than 6 letters that is none of the language, too"

  private static void edgeWordOfOneLetter() {
    for (char c = 'a'; c <= 'z'; c++) good("mark " + c + " 1 2;");
  }

  private static void edgeWordOfSixLetters() {
    good("mark abcdef 1 2;");
    good("mark zzzzzz 1 2;shot zzzzzz 1 1;has zzzzzz zzzzzz 1;party zzzzzz zzzzzz 1 1;clerk zzzzzz 1;");
  }

  private static void edgeWordOfSevenLetters() {
    bad("mark abcdefg 1 2;", 1, 5);
    bad("mark abcdef 1 2;mark abcdefg 1 2;", 1, 21);
    bad("mark strikes 1 2;", 1, 5);
    bad("marking a 1 2;", 1, 0);
    bad("law notices 1;", 1, 4);
    bad("law notice strikes;", 1, 11);
    bad("law notice 1 strikes;", 1, 13);
    bad(PAIR + "has s mmmmmmm 1;", 1, 28);
    bad(PAIR + "has sssssss m 1;", 1, 26);
  }

  private static void edgeWordOfManyLetters() {
    for (int letters : new int[] {8, 12, 13, 31, 32, 33, 64, 100}) bad("mark " + "a".repeat(letters) + " 1 2;", 1, 5);
  }

  private static void edgeWordsOfTheLanguageAreNoNames() {
    for (String word : LANGUAGE) {
      bad("mark " + word + " 1 2;", 1, 5);
      bad("shot " + word + " 1 2;", 1, 5);
      bad("clerk " + word + " 1;", 1, 6);
      bad(PAIR + "has " + word + " m 1;", 1, 26);
      bad(PAIR + "has s " + word + " 1;", 1, 28);
      bad(PAIR + "party " + word + " m 1 1;", 1, 28);
      bad(PAIR + "party p " + word + " 1 1;", 1, 30);
    }
  }

  private static void edgeWordsNextToThoseOfTheLanguageAreNames() {
    for (String word : LANGUAGE) {
      good("mark " + word.substring(1) + " 1 2;");
      good("mark " + word.substring(0, word.length() - 1) + " 1 2;");
      if (word.length() < 6) good("mark " + word + "s 1 2;");
      if (word.length() < 6) good("mark a" + word + " 1 2;");
    }
  }

  private static void edgeOnlyWordsOfLinesBeginLines() {
    for (int k = 10; k < LANGUAGE.length; k++) bad(LANGUAGE[k] + " 1;", 1, 0);
    bad("m 1;", 1, 0);
    bad("7;", 1, 0);
    bad("(;", 1, 0);
  }

  private static void edgeOnlyRulesStandBehindLaw() {
    for (int k = 0; k < LANGUAGE.length; k++)
      if (k < 10 || k > 12) bad("law " + LANGUAGE[k] + " 1;", 1, 4);
      else good("law " + LANGUAGE[k] + " 1;");
    bad("law m 1;", 1, 4);
    bad("law 1;", 1, 4);
    bad("law;", 1, 3);
  }

  private static void edgeOnlyNamesAndNumbersStandInASide() {
    for (int k = 0; k < LANGUAGE.length; k++) {
      if (k == 15) bad("law yield not;", 1, 13);
      else if (k < 16) bad("law yield " + LANGUAGE[k] + ";", 1, 10);
      else good("law yield " + LANGUAGE[k] + ";");
      if (k < 13 || k > 14) bad("law yield 1 " + LANGUAGE[k] + " 1;", 1, 12);
      else good("law yield 1 " + LANGUAGE[k] + " 1;");
    }
    bad("law yield m;", 1, 10);
  }

  // "Blanks 10, 32." and what is no token

  private static void edgeBlanks() {
    good("  \n mark\n\na  1\n2 ; \n");
    good("mark a 1 2;\n".repeat(0) + " ");
    good("mark a1 2;shot s1 0;has s a1;");
    good("law yield\n1\n<=\n2\nand\n(\nday\n)\n;");
  }

  private static void edgeOtherBytesAreNoTokens() {
    for (int sign = 0; sign < 256; sign++) {
      boolean blank = sign == 10 || sign == 32;
      boolean end = sign == ';';
      if (blank) good((char) sign + "ill 7;");
      else if (sign >= 'a' && sign <= 'z') bad((char) sign + "ill 7;", 1, 0);
      else bad((char) sign + "ill 7;", 1, 0);
      if (sign >= 'a' && sign <= 'z') continue;
      if (sign >= '0' && sign <= '9') continue;
      if (blank || end) good("ill 7" + (char) sign + (end ? "" : ";"));
      else bad("ill 7" + (char) sign + ";", 1, 5);
      boolean operator = "+-*/<=>".indexOf(sign) >= 0;
      String side = "law yield 1" + (char) sign + "1;";
      if (operator) good(side);
      else if (end) bad(side, 1, 12);
      else if (blank) bad(side, 1, 12);
      else bad(side, 1, 11);
    }
  }

  private static void edgeABadTokenIsNotAheadOfAnEarlierFault() {
    bad("mark a 100 2?;", 2, 7);
    bad("mark a 1 2;mark a ?;", 3, 16);
    bad("mark a ? 7;", 1, 7);
  }

  private static void edgeEachLineEndsWithASemicolon() {
    good("ill 7;purse 8;");
    bad("ill 7 purse 8;", 1, 6);
    bad("ill 7;purse 8", 1, 13);
    bad("ill 7;;", 1, 6);
    bad(";", 1, 0);
    bad("ill 7;  purse 8 \n", 1, 17);
    bad("ill 7 x", 1, 6);
    bad("ill 7 x;", 1, 6);
    bad("ill 7 9;", 1, 6);
    bad("law yield 7 x", 1, 12);
  }

  private static void edgeASemicolonTooEarly() {
    bad("mark ; 1 2;", 1, 5);
    bad("mark a ; 2;", 1, 7);
    bad("mark a 1;", 1, 8);
    bad("shot s 1;", 1, 8);
    bad("clerk c;", 1, 7);
    bad("cold 1;", 1, 6);
    bad("ill;", 1, 3);
    bad("purse;", 1, 5);
    bad("seed;", 1, 4);
    bad(PAIR + "has ; m 1;", 1, 26);
    bad(PAIR + "has s ; 1;", 1, 28);
    bad(PAIR + "has s m;", 1, 29);
    bad(PAIR + "party p m 1;", 1, 33);
  }

  private static void edgeANumberInPlaceOfAWordAndAWordOfANumber() {
    bad("mark 1 1 2;", 1, 5);
    bad("mark a b 2;", 1, 7);
    bad("mark a 1 b;", 1, 9);
    bad("ill x;", 1, 4);
    bad("cold 1 x;", 1, 7);
    bad(PAIR + "has 0 m 1;", 1, 26);
    bad(PAIR + "has s 0 1;", 1, 28);
    bad(PAIR + "has s m m;", 1, 30);
    bad(PAIR + "party 0 m 1 1;", 1, 28);
    bad(PAIR + "party p 0 1 1;", 1, 30);
    bad(PAIR + "party p m m 1;", 1, 32);
  }

  // "(the length, if more must come)"

  private static void edgeTheLengthIfMoreMustCome() {
    String[] lines = {"mark a 1 2;", "shot a 1 2;", "clerk a 1;", "cold 1 2;", "ill 1;", "purse 1;", "seed 1;"};
    for (String line : lines) {
      for (int n = line.indexOf(' '); n < line.length(); n++) bad(line.substring(0, n), 1, n);
      good(line);
    }
    String has = PAIR + "has s m 1;";
    for (int n = PAIR.length() + 3; n < has.length(); n++) bad(has.substring(0, n), 1, n);
    String party = PAIR + "party p m 1 9;";
    for (int n = PAIR.length() + 5; n < party.length(); n++) bad(party.substring(0, n), 1, n);
  }

  private static void edgeTheLengthInASide() {
    String law = "law notice (1+day)<2;";
    int[] places = {-1, 0, 0, 3, 4, 4, 4, 4, 4, 4, 10, 11, 12, 13, 14, 14, 14, 17, 18, 19, 20, -1};
    for (int n = 1; n < places.length; n++) bad(law.substring(0, n), places[n] < 0 ? 0 : 1, places[n]);
    bad("law notice 1 and", 1, 16);
    bad("law notice not ", 1, 15);
    bad("law notice ((1)", 1, 15);
  }

  // the numbers of each line

  private static void edgeStrikes0To99() {
    numberOf("mark a ", 0, 99, " 2;");
  }

  private static void edgeWays2To6() {
    numberOf("mark a 1 ", 2, 6, ";");
    tooMuch("mark a 1 0;", 9);
  }

  private static void edgeCost1To99() {
    numberOf("shot a ", 1, 99, " 2;");
  }

  private static void edgeDay0To99() {
    numberOf("shot a 1 ", 0, 99, ";");
  }

  private static void edgeWayOfAShotBelowThoseOfTheMark() {
    for (int ways = 2; ways <= 6; ways++) numberOf("mark m 1 " + ways + ";shot s 1 0;has s m ", 0, ways - 1, ";");
    tooMuch("mark m 1 6;mark n 1 2;shot s 1 0;has s n 2;", 41);
    good("mark m 1 2;mark n 1 6;shot s 1 0;has s n 5;");
  }

  private static void edgeWayOfAPartyBelowThoseOfTheMark() {
    for (int ways = 2; ways <= 6; ways++) numberOf("mark m 1 " + ways + ";party p m ", 0, ways - 1, " 1;");
    tooMuch("mark m 1 6;mark n 1 2;party p n 2 1;", 32);
  }

  private static void edgePlums0To99() {
    numberOf("mark m 1 2;party p m 1 ", 0, 99, ";");
  }

  private static void edgeClerk0To63() {
    numberOf("clerk c ", 0, 63, ";");
  }

  private static void edgeColdFrom0To99() {
    numberOf("cold 0 ", 0, 99, ";");
    numberOf("cold ", 0, 99, " 99;");
    tooMuch("cold 100 100;", 5);
  }

  private static void edgeColdsLastBelowItsFirst() {
    good("cold 5 5;");
    good("cold 99 99;");
    tooMuch("cold 5 4;", 7);
    tooMuch("cold 99 0;", 8);
  }

  private static void edgeIll0To100() {
    numberOf("ill ", 0, 100, ";");
  }

  private static void edgePurse0To999() {
    numberOf("purse ", 0, 999, ";");
    Due.is("999", Feeder.told("purse 999;").count(9), 999);
    Due.is("0", Feeder.told("purse 0;").count(9), 0);
    Due.is("99 without", Feeder.told("ill 0;").count(9), 99);
  }

  private static void edgeSeed0To99999() {
    numberOf("seed ", 0, 99999, ";");
  }

  private static void edgeNumberOfASide0To9999() {
    numberOf("law yield ", 0, 9999, ";");
    numberOf("law yield 1+(day*", 0, 9999, ");");
    Due.is("9999", Feeder.told("mark m 1 2;law yield 9999;").law(1, 0, 0), 9999);
    Due.is("0", Feeder.told("mark m 1 2;law yield 0;").law(1, 0, 0), 0);
  }

  private static void edgeNoNumberIsBelow0() {
    bad("mark a -1 2;", 1, 7);
    bad("purse -1;", 1, 6);
    bad("law yield -1;", 1, 10);
  }

  // "at most 6", "at most 8" .. : "a seventh mark and so on (at the word of the LINE)"

  private static void atMost(String ahead, int most, String line) {
    String all = ahead + times(most, line);
    good(all);
    tooMuch(all + times(most + 1, line).substring(times(most, line).length()), all.length());
    tooMuch(all + " \n" + line.substring(0, line.indexOf(' ')), all.length() + 2);
    tooMuch(all + line.substring(0, line.indexOf(' ')) + " ?", all.length());
  }

  private static void edgeSeventhMark() {
    atMost("", 6, "mark ? 1 2;");
    Due.is("six", Feeder.told(times(6, "mark ? 1 2;")).count(0), 6);
  }

  private static void edgeNinthShot() {
    atMost("", 8, "shot ? 1 2;");
    Due.is("eight", Feeder.told(times(8, "shot ? 1 2;")).count(1), 8);
  }

  private static void edgeTwentyFirstHas() {
    StringBuilder all = new StringBuilder(times(6, "mark ? 1 2;") + times(8, "shot ? 1 2;"));
    for (int k = 0; k < 20; k++) all.append("has ").append((char) ('a' + k % 8)).append(' ').append((char) ('a' + k / 8)).append(" 1;");
    good(all.toString());
    tooMuch(all + "has h f 1;", all.length());
    tooMuch(all + "has", all.length());
  }

  private static void edgeFifthParty() {
    atMost("mark m 1 2;", 4, "party ? m 1 2;");
    Due.is("four", Feeder.told("mark m 1 2;" + times(4, "party ? m 1 2;")).count(2), 4);
  }

  private static void edgeFifthClerk() {
    atMost("", 4, "clerk ? 1;");
    Due.is("four", Feeder.told(times(4, "clerk ? 1;")).count(3), 4);
  }

  private static void edgeFourthCold() {
    atMost("", 3, "cold 1 2;");
  }

  // "a ninth '(' open"

  private static void edgeNinthBracket() {
    good("law yield ((((((((1))))))));");
    tooMuch("law yield (((((((((1)))))))));", 18);
    tooMuch("law yield ((((((((1+(", 20);
  }

  private static void edgeNinthBracketOpenNotNinthOfAll() {
    good("law yield ((((((((1)+(1))))))));");
    good("law yield (1)+(1)+(1)+(1)+(1)+(1)+(1)+(1)+(1)+(1);");
    good("law yield ((((((((1))))))));law again ((((((((1))))))));");
    tooMuch("law yield ((((((((1))))))));law again (((((((((1)))))))));", 46);
  }

  private static void edgeNinthBracketThatCantStandIs1() {
    bad("law yield ((((((((1(", 1, 19);
  }

  private static void edgeBracketsMustBeClosed() {
    bad("law yield (1;", 1, 12);
    bad("law yield 1);", 1, 11);
    bad("law yield ();", 1, 11);
    bad("law yield );", 1, 10);
  }

  // "a 65th KNOT of all E (N, NAMES, signs, not, and, or: one each)"

  /** A side of so many knots, an odd number. */
  private static String side(int knots) {
    return "1" + "+day".repeat(knots / 2);
  }

  private static int knots(String laws) {
    return Feeder.told(laws).count(4);
  }

  private static void edgeKnotsOneEach() {
    Due.is("no law", knots("ill 7;"), 0);
    for (String leaf : new String[] {"0", "9999", "strike", "plums", "said", "times", "cost", "day", "away", "(1)", "((((((((day))))))))"})
      Due.is(leaf, knots("law yield " + leaf + ";"), 1);
    for (String sign : new String[] {"+", "-", "*", "/", "<", "<=", "=", "<>", ">=", ">", " and ", " or "})
      Due.is(sign, knots("law yield 1" + sign + "1;"), 3);
    Due.is("not", knots("law yield not not 1;"), 3);
    Due.is("of all laws", knots("law yield 1;law notice 1+1;law again not 1;"), 6);
  }

  private static void edge64KnotsOfOneLaw() {
    good("law yield not " + side(63) + ";");
    Due.is("64", knots("law yield not " + side(63) + ";"), 64);
  }

  private static void edge65thKnotOfEachKind() {
    String full = "law yield " + side(63);
    for (String sign : new String[] {"+", "-", "*", "/", "<", "<=", "=", "<>", ">=", ">", " and ", " or "}) {
      int at = full.length() + (sign.startsWith(" ") ? 1 : 0);
      tooMuch(full + sign + "1;", at + sign.trim().length() + (sign.startsWith(" ") ? 1 : 0));
      tooMuch("law yield not " + side(63) + sign + "1;", at + 4);
    }
    tooMuch("law yield " + side(63) + ";law again 1+1;", full.length() + 12);
    tooMuch("law yield not " + side(63) + ";law again 1;", full.length() + 4 + 11);
    tooMuch("law yield not " + side(63) + ";law again not 1;", full.length() + 4 + 11);
    for (String name : new String[] {"strike", "plums", "said", "times", "cost", "day", "away"})
      tooMuch("law yield not " + side(63) + ";law again " + name + ";", full.length() + 4 + 11);
  }

  private static void edge65KnotsOfThreeLaws() {
    good("law yield " + side(21) + ";law again " + side(21) + ";law notice not " + side(21) + ";");
    String two = "law yield " + side(21) + ";law again " + side(21) + ";";
    tooMuch(two + "law notice not not " + side(21) + ";", two.length() + 19 + side(21).length() - 3);
  }

  private static void edge65thKnotAtItsBracketIsTheNextOne() {
    String full = "law yield not " + side(63) + ";law again (";
    tooMuch(full + "1);", full.length());
    bad(full + ");", 1, full.length());
  }

  // "(of one place the least)"

  private static void edge65thKnotThatCantStandIs1() {
    String full = "law yield not " + side(63);
    bad(full + " 1;", 1, full.length() + 1);
    bad(full + " not;", 1, full.length() + 1);
    bad(full + " day;", 1, full.length() + 1);
    bad(full + ";law again and;", 1, full.length() + 11);
    bad(full + ";law again +1;", 1, full.length() + 11);
    bad(full + ";law again mark;", 1, full.length() + 11);
    String compared = "law yield not " + "1+".repeat(30) + "1<1";
    bad(compared + "<1;", 1, compared.length());
    String added = "law yield " + "1+".repeat(31) + "1+";
    bad(added + "not 1;", 1, added.length());
  }

  private static void edge65thKnotBeyond9999Is2() {
    String full = "law yield not " + side(63) + ";law again ";
    tooMuch(full + "10000;", full.length());
  }

  // "the first along the text"

  private static void edgeTheFirstAlongTheText() {
    bad("mark a 100 7;", 2, 7);
    bad("mark a 1 7;mark a 1 2;", 2, 9);
    bad("mark a 1 2;mark a 100 2;", 3, 16);
    bad("has s m 0;?", 4, 4);
    bad("?has s m 0;", 1, 0);
    bad("ill 5;ill 101;", 3, 6);
    bad("ill 101;ill 5;", 2, 4);
    bad("law yield 10000;law yield 1;", 2, 10);
    bad("law yield 1;law yield 10000;", 3, 16);
    bad("cold 100 0;", 2, 5);
    bad(PAIR + "has s x 9;", 4, 28);
    bad(PAIR + "has x x 9;", 4, 26);
    bad(PAIR + "party p x 9 100;", 4, 30);
    bad(PAIR + "party p m 9 100;", 2, 32);
  }

  // FAULT 3: "told already"

  private static void edgeNameOfItsKindToldAlready() {
    bad("mark a 1 2;mark b 1 2;mark a 1 2;", 3, 27);
    bad("shot a 1 2;shot b 1 2;shot a 1 2;", 3, 27);
    bad("clerk a 1;clerk b 1;clerk a 1;", 3, 26);
    bad("mark m 1 2;party a m 1 2;party b m 1 2;party a m 1 2;", 3, 45);
  }

  private static void edgeNameOfAnotherKindMayBeTold() {
    good("mark a 1 2;shot a 1 2;party a a 1 2;clerk a 1;has a a 1;");
  }

  private static void edgeLongerAndShorterNamesAreOthers() {
    good("mark a 1 2;mark aa 1 2;mark aaa 1 2;mark aaaa 1 2;mark aaaaa 1 2;mark aaaaaa 1 2;");
  }

  private static void edgeTheLastOfAllNamesToldAlready() {
    bad(times(5, "mark ? 1 2;") + "mark e 1 2;", 3, 60);
    bad(times(7, "shot ? 1 2;") + "shot g 1 2;", 3, 82);
    bad(times(3, "clerk ? 1;") + "clerk c 1;", 3, 36);
  }

  private static void edgeMarkOfTheSameShotToldAlready() {
    bad(PAIR + "has s m 0;has s m 0;", 3, 38);
    bad(PAIR + "has s m 0;has s m 9;", 3, 38);
    good(PAIR + "mark n 1 2;shot t 1 2;has s m 0;has t m 0;has s n 0;has t n 0;");
  }

  private static void edgeIllPurseSeedToldAlready() {
    for (String word : new String[] {"ill", "purse", "seed"}) {
      bad(word + " 0;" + word + " 0;", 3, word.length() + 3);
      bad(word + " 9;" + word + ";", 3, word.length() + 3);
      bad(word + " 0; \n" + word, 3, word.length() + 5);
    }
    good("ill 0;purse 0;seed 0;");
  }

  private static void edgeLawToldAlready() {
    for (String rule : new String[] {"notice", "yield", "again"}) {
      bad("law " + rule + " 1;law " + rule + " 1;", 3, 11 + rule.length());
      bad("law " + rule + " 1;law  " + rule, 3, 12 + rule.length());
    }
    good("law notice 1;law yield 1;law again 1;");
  }

  // FAULT 4: "a MARK, a SHOT that isn't told ahead (at W)"

  private static void edgeMarkThatIsNotToldAhead() {
    bad("shot s 1 2;has s m 1;mark m 1 2;", 4, 17);
    bad("party p m 1 1;mark m 1 2;", 4, 8);
    bad("mark n 1 2;shot m 1 2;party p m 1 1;", 4, 30);
    bad("mark n 1 2;shot s 1 2;has s s 1;", 4, 28);
  }

  private static void edgeShotThatIsNotToldAhead() {
    bad("mark m 1 2;has s m 1;shot s 1 2;", 4, 15);
    bad("mark m 1 2;shot s 1 2;has m m 1;", 4, 26);
  }

  // "A = (or > behind <) right behind < or > belongs to it."

  private static void edgeSignsOfTwo() {
    good("law yield 1<=2;");
    good("law yield 1>=2;");
    good("law yield 1<>2;");
    bad("law yield 1< =2;", 1, 13);
    bad("law yield 1> =2;", 1, 13);
    bad("law yield 1< >2;", 1, 13);
    bad("law yield 1><2;", 1, 12);
    bad("law yield 1>>2;", 1, 12);
    bad("law yield 1<<2;", 1, 12);
    bad("law yield 1=<2;", 1, 12);
    bad("law yield 1=>2;", 1, 12);
    bad("law yield 1==2;", 1, 12);
    bad("law yield 1<=>2;", 1, 13);
    bad("law yield 1<>=2;", 1, 13);
    bad("law yield 1>==2;", 1, 13);
    bad("law yield 1<\n=2;", 1, 13);
  }

  // the E's form

  private static void edgeOneComparisonAtMost() {
    for (String sign : new String[] {"<", "<=", "=", "<>", ">=", ">"}) {
      good("law yield 1" + sign + "2;");
      bad("law yield 1" + sign + "2" + sign + "3;", 1, 12 + sign.length());
      bad("law yield 1" + sign + "2*3+4" + sign + "3;", 1, 16 + sign.length());
      good("law yield (1" + sign + "2)" + sign + "(3" + sign + "4);");
      good("law yield 1" + sign + "2 and 1" + sign + "2 or not 1" + sign + "2;");
    }
    bad("law yield not 1<2<3;", 1, 17);
  }

  private static void edgeNotStandsAheadOfAComparisonOnly() {
    good("law yield not not not 1;");
    good("law yield 1 and not 1;");
    good("law yield 1 or not 1;");
    good("law yield (not 1);");
    good("law yield not(1);");
    for (String sign : new String[] {"+", "-", "*", "/", "<", "<=", "=", "<>", ">=", ">"}) {
      bad("law yield 1" + sign + "not 1;", 1, 11 + sign.length());
      good("law yield 1" + sign + "(not 1);");
    }
  }

  private static void edgeAnESideIsNotEmpty() {
    bad("law yield;", 1, 9);
    bad("law yield ;", 1, 10);
    bad("law yield 1 and;", 1, 15);
    bad("law yield 1 2;", 1, 12);
    bad("law yield 1(2);", 1, 11);
    bad("law yield (1)2;", 1, 13);
    bad("law yield (1)day;", 1, 13);
  }
}
