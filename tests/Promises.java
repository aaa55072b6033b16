import java.util.NoSuchElementException;

/** Each promise by hand: ordinary inputs, the edges that the document names, wrong inputs. */
public final class Promises {
  private static final String FILM = "mark hat 60 3;mark sea 20 2;shot one 10 0;shot two 20 1;shot six 5 2;"
      + "has one hat 0;has one sea 1;has two hat 2;has six hat 1;has six sea 0;";

  public static void main(String[] args) {
    promise1New();
    promise2Feed();
    promise3Text();
    promise4Faults();
    promise4FaultsInLaws();
    promise5Named();
    promise6Mark();
    promise7Shot();
    promise8Way();
    promise9Party();
    promise10Clerk();
    promise11LawSides();
    promise11LawNames();
    promise12Plums();
    promise13Move();
    promise14And15Says();
    promise16GoPlain();
    promise16GoNotices();
    promise16GoYields();
    promise16GoAgain();
    promise16GoNumbers();
    promise17Ahead();
    promise18Breaks();
    promise19Agrees();
    promise20Least();
    promise21Order();
    promise22Noted();
    promise23Bribe();
    promise24And25Rests();
    promise26There();
    promise27Without();
    promise28Run();
    promise29Believed();
    promise30To33Seen();
    promise34Chance();
    promise35Tried();
    promise36Undo();
    promise37And38Image();
    promise39Count();
    Due.end();
  }

  private static void promise1New() {
    GirlShots x = new GirlShots();
    for (int what = 0; what < 15; what++) Due.is("1 count " + what, x.count(what), what == 9 ? 99 : 0);
    Due.is("1 fault", x.fault(0), 0);
    Due.is("1 place", x.fault(1), -1);
    Due.is("1 empty tape", x.text(1), -2);
    Due.is("1 empty text", x.text(0), 0);
    Due.is("1 NONE", GirlShots.NONE, -1);
  }

  private static void promise2Feed() {
    GirlShots x = new GirlShots();
    for (int k = 1; k <= 35; k++) Due.is("2 feed", x.feed(k, 0, -1, 7, 9), 20 * k);
    Due.is("2 full", x.feed(1, 2, 3, 4, 5), -1);
    Due.is("2 all of it", x.text(701), -2);
    Due.is("2 all of it", x.text(700), -1);
    Due.is("2 empty", x.feed(0x6d61726b, 0x20612031, 0x2032203b, 0, 0), 20);
    Due.is("2 highest byte first", x.text(12), 1);
    Due.is("2 name", x.named(0, Feeder.name("a")), 0);
    Due.is("2 again", x.feed(0, 0, 0, 0, 0x3b), 20);
    Due.is("2 bytes in order", x.text(20), -1);
    Due.is("2 first byte is none", x.fault(1), 0);
  }

  private static void promise3Text() {
    GirlShots x = Feeder.told(FILM);
    Due.is("3 lines", Feeder.read(x, FILM + "cold 1 1;ill 3 ; purse 12;\nseed 5;law yield 1;law notice 0;law again 9;"), 17);
    Due.is("3 below 0", x.text(-1), -2);
    x.tell(0, 1);
    x.see(1, 0, true);
    x.known(0);
    x.keep();
    x.go(1);
    Feeder.feed(x, "shot ;");
    Due.is("3 too long", x.text(21), -2);
    Due.is("3 fault", x.text(6), -1);
    Due.is("3 tape is empty", x.text(1), -2);
    Due.is("3 all else stays", x.count(5), 1);
    Due.is("3 all else stays", x.count(1), 3);
    Due.is("3 seen stays", x.count(12), 1);
    Due.is("3 known stays", x.count(13), 0);
    Due.is("3 the image stays", x.back(), 0);
    x.forget(0);
    Due.is("3 undo stays", Feeder.read(x, "?"), -1);
    Due.is("3 undo stays", x.count(14), 1);
    x.go(1);
    x.tell(1, 0);
    Due.is("3 anew", Feeder.read(x, FILM), 10);
    Due.is("3 day", x.count(5), 0);
    Due.is("3 filmed", x.count(6), 0);
    Due.is("3 says", x.mark(0, 2), -1);
    Due.is("3 seen", x.count(12), 0);
    x.see(1, 0, true);
    Due.is("3 all known", x.count(13), 1);
    Due.is("3 no image", x.back(), -1);
    Due.is("3 nothing to undo", x.undo(), -1);
    Due.is("3 only the first bytes", Feeder.read(new GirlShots(), "ill 4 ;"), 1);
    GirlShots y = new GirlShots();
    Feeder.feed(y, "ill 4;ill 5;");
    Due.is("3 only the first bytes", y.text(6), 1);
    Due.is("3 an empty tape then", y.text(1), -2);
    Due.is("3 blanks alone", Feeder.read(y, " \n \n"), 0);
    Due.is("3 words next to digits", Feeder.read(y, "mark a1 2;shot s1 0;has s a1;"), 3);
    Due.is("3 a name of each kind", Feeder.read(y, "mark a 1 2;shot a 1 0;party a a 0 0;clerk a 0;"), 4);
  }

  private static void fault(String text, int fault, int place) {
    GirlShots x = new GirlShots();
    Due.is("4 " + text, Feeder.read(x, text), fault == 0 ? x.fault(0) + lines(text) : -1);
    Due.is("4 fault of " + text, x.fault(0), fault);
    Due.is("4 place of " + text, x.fault(1), place);
    Due.is("4 another what", x.fault(2), -1);
    Due.is("4 another what", x.fault(-1), -1);
    x.text(5000);
    Due.is("4 stays behind -2", x.fault(0), fault);
  }

  private static int lines(String text) {
    int count = 0;
    for (int i = 0; i < text.length(); i++) if (text.charAt(i) == ';') count++;
    return count;
  }

  private static void promise4Faults() {
    fault("mark a 1 2", 1, 10);
    fault("mark a 1 2  ", 1, 12);
    fault("mark", 1, 4);
    fault(";", 1, 0);
    fault("mark a 1 2;;", 1, 11);
    fault("mark a 1 2 3;", 1, 11);
    fault("mark\ta 1 2;", 1, 4);
    fault("Mark a 1 2;", 1, 0);
    fault("mark abcdefg 1 2;", 1, 5);
    fault("mark abcdef 1 2;", 0, -1);
    fault("marking a 1 2;", 1, 0);
    fault("foo a 1 2;", 1, 0);
    fault("mark mark 1 2;", 1, 5);
    fault("mark away 1 2;", 1, 5);
    fault("mark notice 1 2;", 1, 5);
    fault("mark 1 1 2;", 1, 5);
    fault("mark a b 2;", 1, 7);
    fault("mark a 99 6;", 0, -1);
    fault("mark a 100 6;", 2, 7);
    fault("mark a 00000000000000000000099 2;", 0, -1);
    fault("mark a 99999999999999999999999999 2;", 2, 7);
    fault("mark a 1 1;", 2, 9);
    fault("mark a 1 7;", 2, 9);
    fault("mark a 1 2;mark a 100 2;", 3, 16);
    fault("shot a 0 0;", 2, 7);
    fault("shot a 99 99;", 0, -1);
    fault("shot a 100 0;", 2, 7);
    fault("shot a 1 100;", 2, 9);
    fault("shot a 1 1;shot a 1 1;", 3, 16);
    String pair = "mark m 1 2;shot s 1 0;";
    fault(pair + "has s m 1;", 0, -1);
    fault(pair + "has s m 2;", 2, 30);
    fault(pair + "has m m 0;", 4, 26);
    fault(pair + "has s s 0;", 4, 28);
    fault(pair + "has s m 0;has s m 1;", 3, 38);
    fault(pair + "has s m 0;has s n 1;", 4, 38);
    fault(pair + "has s law 0;", 1, 28);
    fault(pair + "has 7 m 0;", 1, 26);
    fault(pair + "party p m 1 99;", 0, -1);
    fault(pair + "party p m 2 99;", 2, 32);
    fault(pair + "party p m 1 100;", 2, 34);
    fault(pair + "party p q 1 99;", 4, 30);
    fault(pair + "party p m 1 9;party p q 1 9;", 3, 42);
    fault("clerk c 63;", 0, -1);
    fault("clerk c 64;", 2, 8);
    fault("clerk c 6;clerk c 6;", 3, 16);
    fault("cold 0 99;cold 99 99;", 0, -1);
    fault("cold 0 100;", 2, 7);
    fault("cold 100 100;", 2, 5);
    fault("cold 7 6;", 2, 7);
    fault("ill 100;", 0, -1);
    fault("ill 101;", 2, 4);
    fault("ill 0;ill 101;", 3, 6);
    fault("purse 999;", 0, -1);
    fault("purse 1000;", 2, 6);
    fault("purse 0;purse;", 3, 8);
    fault("seed 99999;", 0, -1);
    fault("seed 100000;", 2, 5);
    fault("seed 0;seed", 3, 7);
    StringBuilder many = new StringBuilder();
    for (char c = 'a'; c < 'g'; c++) many.append("mark ").append(c).append(" 1 2;");
    fault(many.toString(), 0, -1);
    fault(many + "mark a 1 2;", 2, many.length());
    fault(many + "mark", 2, many.length());
    for (char c = 'a'; c < 'i'; c++) many.append("shot ").append(c).append(" 1 2;");
    fault(many.toString(), 0, -1);
    fault(many + " shot z 1 2;", 2, many.length() + 1);
    for (int k = 0; k < 20; k++) many.append("has ").append((char) ('a' + k / 6)).append(' ').append((char) ('a' + k % 6)).append(" 1;");
    fault(many.toString(), 0, -1);
    fault(many + "has q q 1;", 2, many.length());
    String four = pair + "party a m 0 1;party b m 0 1;party c m 0 1;party d m 0 1;clerk a 1;clerk b 1;clerk c 1;clerk d 1;cold 0 1;cold 0 1;cold 0 1;";
    fault(four, 0, -1);
    fault(four + "party a m 0 1;", 2, four.length());
    fault(four + "clerk a 1;", 2, four.length());
    fault(four + "cold a 1;", 2, four.length());
    GirlShots x = new GirlShots();
    Feeder.read(x, "?");
    Feeder.read(x, "ill 5;");
    Due.is("4 of the latest", x.fault(0), 0);
    Due.is("4 of the latest", x.fault(1), -1);
  }

  private static void promise4FaultsInLaws() {
    fault("law 1;", 1, 4);
    fault("law mark 1;", 1, 4);
    fault("law strike 1;", 1, 4);
    fault("law notice;", 1, 10);
    fault("law notice 1", 1, 12);
    fault("law notice 1;law yield 1;law again 1;", 0, -1);
    fault("law notice 1;law notice 1;", 3, 17);
    fault("law notice 9999;", 0, -1);
    fault("law notice 10000;", 2, 11);
    fault("law notice cost cost;", 1, 16);
    fault("law notice foo;", 1, 11);
    fault("law notice mark;", 1, 11);
    fault("law notice not;", 1, 14);
    fault("law notice not not not day;", 0, -1);
    fault("law notice 1+not 1;", 1, 13);
    fault("law notice 1<not 1;", 1, 13);
    fault("law notice (not 1)+1;", 0, -1);
    fault("law notice 1 not 1;", 1, 13);
    fault("law notice 1 and not 1 or not not 1;", 0, -1);
    fault("law notice 1<2<3;", 1, 14);
    fault("law notice (1<2)<3;", 0, -1);
    fault("law notice 1<2 and 3>=2 or 1<>2;", 0, -1);
    fault("law notice 1+2<3*4=5;", 1, 18);
    fault("law notice 1< =2;", 1, 14);
    fault("law notice 1=<2;", 1, 13);
    fault("law notice 1=>2;", 1, 13);
    fault("law notice 1<>=2;", 1, 14);
    fault("law notice 1><2;", 1, 13);
    fault("law notice -1;", 1, 11);
    fault("law notice 1+-1;", 1, 13);
    fault("law notice 1&2;", 1, 12);
    fault("law notice ();", 1, 12);
    fault("law notice (1;", 1, 13);
    fault("law notice 1);", 1, 12);
    fault("law notice (1)(1);", 1, 14);
    fault("law notice ((((((((1))))))));", 0, -1);
    fault("law notice (((((((((1)))))))));", 2, 19);
    fault("law notice ((((((((1))))))))+((((((((1))))))));", 0, -1);
    StringBuilder long64 = new StringBuilder("law notice day");
    for (int k = 0; k < 31; k++) long64.append("+1");
    fault(long64 + ";law yield 1;", 0, -1);
    fault(long64 + "*9;", 2, long64.length() + 1);
    fault(long64 + ";law yield 1+1;", 2, long64.length() + 12);
    fault(long64 + ";law yield not 1;", 2, long64.length() + 15);
    fault(long64 + ";law yield 1(", 1, long64.length() + 12);
    StringBuilder nots = new StringBuilder("law again ");
    for (int k = 0; k < 63; k++) nots.append("not ");
    fault(nots + "1;", 0, -1);
    fault(nots + "not 1;", 2, nots.length() + 4);
    fault("mark a\u00e9 1 2;", 1, 6);
  }

  private static void promise5Named() {
    GirlShots x = Feeder.told(FILM + "party six hat 0 1;clerk abcdef 1;clerk z 2;");
    Due.is("5 mark", x.named(0, Feeder.name("sea")), 1);
    Due.is("5 a", x.named(0, Feeder.name("a")), -1);
    Due.is("5 shot", x.named(1, Feeder.name("six")), 2);
    Due.is("5 party", x.named(2, Feeder.name("six")), 0);
    Due.is("5 clerk", x.named(3, Feeder.name("z")), 1);
    Due.is("5 all six", x.named(3, 1 << 25 | 2 << 20 | 3 << 15 | 4 << 10 | 5 << 5 | 6), 0);
    Due.is("5 z is highest", x.named(3, 26 << 25), 1);
    Due.is("5 another kind", x.named(0, Feeder.name("six")), -1);
    for (int what : new int[] {-1, 4}) Due.is("5 no such kind", x.named(what, Feeder.name("six")), -1);
    Due.is("5 nothing", x.named(0, 0), -1);
    Due.is("5 below", x.named(0, -1), -1);
  }

  private static int thrown(GirlShots x, int mark, int what) {
    try {
      x.mark(mark, what);
      return 0;
    } catch (IndexOutOfBoundsException e) {
      return 1;
    } catch (NoSuchElementException e) {
      return 2;
    }
  }

  private static void promise6Mark() {
    GirlShots x = Feeder.told(FILM + "party p hat 1 9;");
    Due.is("6 strikes", x.mark(1, 0), 20);
    Due.is("6 ways", x.mark(0, 1), 3);
    Due.is("6 says nothing", x.mark(0, 2), -1);
    x.go(1);
    Due.is("6 says", x.mark(0, 2), 0);
    Due.is("6 sea strikes too little", x.mark(1, 2), -1);
    Due.is("6 given", x.mark(0, 3), 1);
    Due.is("6 in filmed ones", x.mark(0, 4), 1);
    x.go(2);
    Due.is("6 in filmed ones", x.mark(0, 4), 3);
    Due.is("6 in filmed ones", x.mark(1, 4), 2);
    Due.is("6 good", thrown(x, 1, 4), 0);
    Due.is("6 no such mark", thrown(x, 2, 0), 1);
    Due.is("6 no such mark", thrown(x, -1, 0), 1);
    Due.is("6 no such what", thrown(x, 0, 5), 2);
    Due.is("6 no such what", thrown(x, 1, -1), 2);
    Due.is("6 both", thrown(x, 6, 5), 1);
  }

  private static void promise7Shot() {
    GirlShots x = Feeder.told(FILM);
    Due.is("7 cost", x.shot(1, 0), 20);
    Due.is("7 day", x.shot(2, 1), 2);
    Due.is("7 filmed", x.shot(0, 2), 0);
    x.tell(0, 1);
    Due.is("7 clash of what isn't filmed", x.shot(0, 3), 0);
    x.go(1);
    Due.is("7 filmed", x.shot(0, 2), 1);
    x.tell(0, 2);
    x.tell(1, 0);
    Due.is("7 clash", x.shot(0, 3), 2);
    x.move(1, 50);
    Due.is("7 moved", x.shot(1, 1), 50);
    x.go(1);
    Due.is("7 again", x.shot(0, 4), 1);
    Due.is("7 no clash then", x.shot(0, 3), 0);
    Due.is("7 way then", x.way(0, 1), 0);
    for (int shot : new int[] {-1, 3}) Due.is("7 no such shot", x.shot(shot, 0), -1);
    for (int what : new int[] {-1, 5}) Due.is("7 no such what", x.shot(0, what), -1);
  }

  private static void promise8Way() {
    GirlShots x = Feeder.told(FILM);
    Due.is("8 way", x.way(1, 0), 2);
    Due.is("8 isn't in it", x.way(1, 1), -2);
    Due.is("8 no mark", x.way(0, 2), -1);
    Due.is("8 no mark", x.way(0, -1), -1);
    Due.is("8 no shot", x.way(3, 0), -1);
    Due.is("8 no shot", x.way(-1, 0), -1);
    x.tell(0, 1);
    x.go(1);
    Due.is("8 changed", x.way(0, 0), 1);
    Due.is("8 not said", x.way(0, 1), 1);
    Due.is("8 not filmed", x.way(1, 0), 2);
  }

  private static void promise9Party() {
    GirlShots x = Feeder.told(FILM + "party p hat 1 9;party q sea 0 4;");
    Due.is("9 mark", x.party(1, 0), 1);
    Due.is("9 way", x.party(0, 1), 1);
    Due.is("9 plums", x.party(0, 2), 9);
    x.go(2);
    Due.is("9 left", x.party(0, 2), 7);
    Due.is("9 gave", x.party(0, 3), 2);
    Due.is("9 gave nothing", x.party(1, 3), 0);
    for (int party : new int[] {-1, 2}) Due.is("9 no such party", x.party(party, 0), -1);
    for (int what : new int[] {-1, 4}) Due.is("9 no such what", x.party(0, what), -1);
  }

  private static void promise10Clerk() {
    GirlShots x = Feeder.told("clerk a 0;clerk b 63;");
    Due.is("10", x.clerk(0), 0);
    Due.is("10", x.clerk(1), 63);
    Due.is("10 none", x.clerk(2), -1);
    Due.is("10 none", x.clerk(-1), -1);
  }

  private static void side(String side, long want) {
    GirlShots x = Feeder.told("mark m 7 2;law yield " + side + ";");
    Due.is("11 " + side, x.law(1, 0, 0), want);
  }

  private static void promise11LawSides() {
    long error = Long.MIN_VALUE;
    side("1+2*3", 7);
    side("(1+2)*3", 9);
    side("9-3-2", 4);
    side("9-(3-2)", 8);
    side("100/7/2", 7);
    side("(1-8)/2", -3);
    side("8/(1-4)", -2);
    side("2*9/4", 4);
    side("1<2", 1);
    side("2<=1", 0);
    side("2=2", 1);
    side("2<>2", 0);
    side("3>=3", 1);
    side("3>3", 0);
    side("1+1=2", 1);
    side("not 5", 0);
    side("not 0", 1);
    side("not not 5", 1);
    side("not 1=2", 1);
    side("not 0 and 0", 0);
    side("not (0 and 0)", 1);
    side("7 and 8", 1);
    side("7 or 0", 1);
    side("0 or 0-3", 1);
    side("1 or 1 and 0", 1);
    side("(1 or 1) and 0", 0);
    side("1 or 1/0", error);
    side("0 and 1/0", error);
    side("1/(strike-7)", error);
    side("9999*9999*9999", 999700029999L);
    side("1000*1000*1000*1000", 1000000000000L);
    side("1000*1000*1000*1000+1", error);
    side("(0-1000)*1000*1000*1000", -1000000000000L);
    side("(0-1000)*1000*1000*1000-1", error);
    side("9999*9999*9999*9999", error);
    side("1000*1000*1000*1000*(1000*1000*1000*1000)", error);
    side("0*(1000*1000*1000*1000*10)", error);
    side("1000*1000*1000*1000*0", 0);
    side("1000*1000*1000*1000*10/10", error);
    side("((((((((1))))))))+strike", 8);
  }

  private static void promise11LawNames() {
    long error = Long.MIN_VALUE;
    String names = "strike+100*plums+1000*said+2000*times";
    String film = "mark m 7 4;mark n 8 2;shot s 30 0;shot t 40 1;shot u 50 5;has s m 2;has s n 1;has t m 1;party p m 3 50;cold 2 3;";
    GirlShots x = Feeder.told(film + "law notice 1;law yield 0;law again " + names + ";");
    Due.is("11 again", x.law(2, 0, -9), 4000);
    x.tell(0, 0);
    Due.is("11 again of what isn't filmed", x.law(2, 0, 0), 5000);
    x.forget(0);
    x.go(1);
    Due.is("11 again, given", x.law(2, 1, 0), 100 + 1000 + 2000);
    Due.is("11 again without marks", x.law(2, 2, 0), 100);
    Due.is("11 notice", x.law(0, 1, 0), 1);
    Due.is("11 yield", x.law(1, -5, 1), 0);
    x = Feeder.told(film + "law yield " + names + "+9999*cost;law notice 1;");
    Due.is("11 yield before", x.law(1, -1, 0), 107);
    x.go(2);
    Due.is("11 yield", x.law(1, 99, 0), 7 + 200 + 1000 + 4000);
    Due.is("11 yield", x.law(1, 99, 1), 8 + 100 + 1000 + 2000);
    x = Feeder.told(film + "law notice " + names + "+9000*cost;law yield 0;");
    Due.is("11 notice", x.law(0, 0, 1), 8 + 270000);
    x.go(2);
    Due.is("11 notice without this one", x.law(0, 0, 0), 7 + 200 + 1000 + 2000 + 270000);
    Due.is("11 notice", x.law(0, 0, 1), 8 + 1000 + 270000);
    for (int[] no : new int[][] {{0, 1, 1}, {0, 3, 0}, {0, -1, 0}, {0, 0, 2}, {0, 0, -1}, {1, 0, 2}, {1, 0, -1}, {2, 3, 0}, {2, -1, 0}, {3, 0, 0}, {-1, 0, 0}})
      Due.is("11 no such ones", x.law(no[0], no[1], no[2]), error);
    Due.is("11 not told", x.law(2, 0, 0), error);
    x = Feeder.told(film + "law yield 100*day+away;");
    Due.is("11 day", x.law(1, 0, 0), 0);
    x.go(3);
    Due.is("11 away", x.law(1, 0, 0), 301);
    x.go(1);
    Due.is("11 away two days in a row", x.law(1, 0, 0), 402);
    x.go(1);
    Due.is("11 there again", x.law(1, 0, 0), 500);
    Due.is("11 raw, not put to 0 .. 999", Feeder.told("shot s 9 0;law again 0-5*cost;").law(2, 0, 0), -45);
  }

  private static void promise12Plums() {
    GirlShots x = Feeder.told("mark m 7 4;party p m 1 9;");
    Due.is("12", x.plums(0, 1), 10);
    Due.is("12", x.plums(0, 99), 109);
    for (int more : new int[] {0, 100, -1, Integer.MAX_VALUE}) Due.is("12 no such number", x.plums(0, more), -1);
    for (int party : new int[] {-1, 1}) Due.is("12 no such party", x.plums(party, 1), -1);
    for (int k = 0; k < 8; k++) x.plums(0, 99);
    Due.is("12 901", x.party(0, 2), 901);
    Due.is("12 too many", x.plums(0, 99), -1);
    Due.is("12 999", x.plums(0, 98), 999);
    Due.is("12 too many", x.plums(0, 1), -1);
  }

  private static void promise13Move() {
    GirlShots x = Feeder.told("shot s 7 4;shot t 1 0;");
    x.go(2);
    Due.is("13 filmed", x.move(1, 9), false);
    Due.is("13 past", x.move(0, 1), false);
    Due.is("13 it is so", x.move(0, 4), false);
    Due.is("13 today", x.move(0, 2), true);
    Due.is("13 far", x.move(0, 9999), true);
    Due.is("13 too far", x.move(0, 10000), false);
    Due.is("13 day", x.shot(0, 1), 9999);
    Due.is("13 none", x.move(2, 9), false);
    Due.is("13 none", x.move(-1, 9), false);
    x.move(0, 2);
    x.go(1);
    Due.is("13 filmed on its day", x.shot(0, 2), 1);
  }

  private static void promise14And15Says() {
    GirlShots x = Feeder.told("mark m 7 4;mark n 1 2;");
    Due.is("15 says nothing", x.forget(0), false);
    Due.is("14", x.tell(0, 3), true);
    Due.is("14 it is so", x.tell(0, 3), false);
    Due.is("14 beyond", x.tell(0, 4), false);
    Due.is("14 beyond", x.tell(1, 2), false);
    Due.is("14 below", x.tell(0, -1), false);
    Due.is("14 none", x.tell(2, 0), false);
    Due.is("14 none", x.tell(-1, 0), false);
    Due.is("14 says", x.mark(0, 2), 3);
    Due.is("14 other", x.tell(0, 0), true);
    Due.is("15", x.forget(0), true);
    Due.is("15 nothing", x.mark(0, 2), -1);
    Due.is("15 none", x.forget(2), false);
    Due.is("15 none", x.forget(-1), false);
  }

  private static void promise16GoPlain() {
    GirlShots x = Feeder.told("shot s 7 4;");
    Due.is("16 none", x.go(-1), -1);
    Due.is("16 none", x.go(100), -1);
    Due.is("16 0", x.go(0), 0);
    Due.is("16 4", x.go(4), 4);
    Due.is("16 not yet", x.shot(0, 2), 0);
    Due.is("16 5", x.go(1), 5);
    Due.is("16 filmed", x.shot(0, 2), 1);
    for (int k = 0; k < 99; k++) x.go(99);
    Due.is("16 9806", x.count(5), 9806);
    Due.is("16 behind 9900", x.go(95), -1);
    Due.is("16 none went by", x.count(5), 9806);
    Due.is("16 9900", x.go(94), 9900);
    Due.is("16 9900", x.go(0), 9900);
    Due.is("16 behind", x.go(1), -1);
  }

  private static void promise16GoNotices() {
    GirlShots x = Feeder.told("mark m 50 3;mark n 49 3;shot s 1 0;shot t 1 0;has s m 1;has s n 1;has t m 2;has t n 2;purse 0;");
    x.go(1);
    Due.is("16 50 strikes", x.mark(0, 2), 1);
    Due.is("16 49 doesn't", x.mark(1, 2), -1);
    Due.is("16 changed on the same day", x.way(1, 0), 1);
    Due.is("16 not changed", x.way(1, 1), 2);
    Due.is("16 changed", x.count(7), 1);
    x = Feeder.told("mark m 50 3;mark n 49 3;shot s 1 0;has s m 1;has s n 1;law notice strike<50;");
    x.go(1);
    Due.is("16 by law", x.mark(0, 2), -1);
    Due.is("16 by law", x.mark(1, 2), 1);
    x = Feeder.told("mark m 50 3;mark n 49 3;shot s 1 0;has s m 1;has s n 1;law notice 1/said;");
    x.go(1);
    Due.is("16 an error", x.mark(0, 2), 1);
    Due.is("16 an error", x.mark(1, 2), -1);
    x = Feeder.told("mark m 99 3;shot s 1 0;has s m 1;cold 0 0;");
    x.tell(0, 2);
    x.go(1);
    Due.is("16 away: filmed", x.shot(0, 2), 1);
    Due.is("16 away: not changed, but filmed again", x.count(7), 0);
    Due.is("16 away: again", x.count(8), 1);
    x = Feeder.told("mark m 1 3;shot s 1 0;shot t 1 0;has s m 1;has t m 2;law notice times=1;purse 0;");
    x.go(1);
    Due.is("16 the first one is filmed when the second one is", x.mark(0, 2), 2);
  }

  private static void promise16GoYields() {
    GirlShots x = Feeder.told("mark m 35 4;party p m 1 9;party q m 2 9;");
    x.go(5);
    Due.is("16 of what she says nothing nobody gives", x.party(0, 2), 9);
    x.tell(0, 0);
    x.go(1);
    Due.is("16 both give", x.mark(0, 3), 2);
    Due.is("16 no yielding yet", x.mark(0, 2), 0);
    x.go(1);
    Due.is("16 q's is above 35 / 10", x.mark(0, 3), 4);
    Due.is("16 she yields to q", x.mark(0, 2), 2);
    x.go(1);
    Due.is("16 p gives, she yields, q gives, she yields", x.mark(0, 3), 6);
    Due.is("16 q again", x.mark(0, 2), 2);
    Due.is("16 left", x.party(1, 2), 6);
    x = Feeder.told("mark m 35 4;party p m 1 9;cold 0 3;");
    x.tell(0, 0);
    x.go(4);
    Due.is("16 away: nothing given", x.mark(0, 3), 0);
    x = Feeder.told("mark m 35 4;party p m 1 2;law yield plums>1;");
    x.tell(0, 0);
    x.go(1);
    Due.is("16 by law, not by one", x.mark(0, 2), 0);
    x.go(1);
    Due.is("16 by law, by this one", x.mark(0, 2), 1);
    x = Feeder.told("mark m 35 4;party p m 1 2;");
    x.tell(0, 0);
    x.go(5);
    Due.is("16 no more than it has", x.party(0, 3), 2);
  }

  private static void promise16GoAgain() {
    String film = "mark m 1 4;mark n 1 2;shot s 9 0;shot t 5 0;shot u 5 0;has s m 1;has t m 2;has u n 1;has u m 3;";
    GirlShots x = Feeder.told(film + "purse 14;");
    x.go(1);
    x.tell(0, 0);
    x.go(1);
    Due.is("16 first by numbers", x.shot(0, 4), 1);
    Due.is("16 one a day", x.shot(1, 4), 0);
    Due.is("16 purse", x.count(9), 5);
    x.go(1);
    Due.is("16 second", x.shot(1, 4), 1);
    Due.is("16 purse", x.count(9), 0);
    x.go(1);
    Due.is("16 nothing left", x.shot(2, 4), 0);
    Due.is("16 changed isn't again", x.count(7), 0);
    x = Feeder.told(film + "purse 6;");
    x.go(1);
    x.tell(0, 0);
    x.go(1);
    Due.is("16 the first one that the purse has", x.shot(1, 4), 1);
    Due.is("16 not said: stays", x.way(2, 1), 1);
    x = Feeder.told(film + "purse 6;law again 0-7;");
    x.go(1);
    x.tell(0, 0);
    x.go(3);
    Due.is("16 put to 0", x.count(9), 6);
    Due.is("16 all again", x.count(8), 3);
    x = Feeder.told(film + "purse 999;law again 9999;");
    x.go(1);
    x.tell(0, 0);
    x.go(1);
    Due.is("16 put to 999", x.count(9), 0);
    x = Feeder.told(film + "purse 99;law again 1/0;");
    x.go(1);
    x.tell(0, 0);
    x.go(1);
    Due.is("16 an error: the cost", x.count(9), 90);
    x = Feeder.told(film + "purse 99;law again 10*times+said;cold 1 9;");
    x.go(1);
    x.tell(0, 0);
    x.tell(1, 0);
    x.go(3);
    Due.is("16 11, 11 and 22 by law, though she is away", x.count(9), 55);
  }

  private static int drawn(long number, int n, int ill, int firstCold, int lastCold) {
    int away = 0;
    for (int day = 0; day < n; day++) {
      if (day >= firstCold && day <= lastCold) {
        away++;
      } else {
        number = (number * 1103515245L + 12345L) % (1L << 31);
        if (number / 65536 % 100 < ill) away++;
      }
    }
    return away;
  }

  private static void promise16GoNumbers() {
    for (int ill : new int[] {1, 37, 50, 99}) {
      for (int seed : new int[] {0, 1, 4711, 99999}) {
        GirlShots x = Feeder.told("ill " + ill + ";seed " + seed + ";cold 3 5;");
        x.go(2);
        x.go(58);
        Due.is("16 drawn", x.count(11), drawn(seed, 60, ill, 3, 5));
      }
    }
    GirlShots x = Feeder.told("ill 100;");
    x.go(50);
    Due.is("16 always", x.count(11), 50);
    x = Feeder.told("cold 7 9;cold 9 11;");
    x.go(50);
    Due.is("16 colds alone", x.count(11), 5);
  }

  private static void promise17Ahead() {
    GirlShots x = Feeder.told(FILM + "party p hat 1 9;cold 1 1;purse 12;");
    long[][] want = {{0, 0, 0, 12, 0}, {1, 0, 0, 12, 0}, {2, 0, 0, 12, 1}, {3, 1, 0, 12, 1}};
    for (int n = 0; n < 4; n++) for (int what = 0; what < 5; what++) Due.is("17 " + n + " " + what, x.ahead(n, what), want[n][what]);
    Due.is("17 nothing comes of it", x.count(5), 0);
    x.go(2);
    Due.is("17 how many more", x.ahead(1, 0), 1);
    Due.is("17 how many more", x.ahead(1, 1), 1);
    x.go(6);
    Due.is("17 none again more", x.ahead(0, 2), 0);
    Due.is("17 none changed more", x.ahead(9, 1), 0);
    for (int n : new int[] {-1, 100}) Due.is("17 no such n", x.ahead(n, 0), -1);
    for (int what : new int[] {-1, 5}) Due.is("17 no such what", x.ahead(1, what), -1);
    Due.is("17 99", x.ahead(99, 0), 0);
    x = Feeder.told("mark m 50 2;shot s 1 0;has s m 0;shot t 1 0;has t m 1;ill 49;");
    Due.is("17 as it goes: there", x.ahead(1, 1), 1);
    x = Feeder.told("mark m 50 2;shot s 1 0;has s m 0;shot t 1 0;has t m 1;ill 50;");
    Due.is("17 as it goes: away", x.ahead(1, 1), 0);
  }

  private static void promise18Breaks() {
    GirlShots x = Feeder.told("mark m 1 3;mark n 1 3;shot s 1 0;shot t 1 1;shot u 1 0;shot v 1 0;"
        + "has s m 0;has t m 1;has u m 2;has v m 1;has s n 0;has t n 1;has u n 0;");
    Due.is("18", x.breaks(), 0);
    x.go(1);
    Due.is("18 only the next one by numbers", x.breaks(), 1);
    x.go(1);
    Due.is("18 each mark", x.breaks(), 5);
  }

  private static void promise19Agrees() {
    GirlShots x = Feeder.told("mark m 99 3;shot s 1 98;has s m 0;");
    Due.is("19", x.agrees(), 99);
    x.go(1);
    Due.is("19", x.agrees(), 98);
    x = Feeder.told("mark m 99 3;shot s 1 99;has s m 0;");
    Due.is("19 not by then", x.agrees(), -2);
    x = Feeder.told("mark m 99 3;shot s 1 0;shot t 1 2;has s m 0;has t m 1;purse 0;");
    Due.is("19", x.agrees(), 3);
    x.go(3);
    Due.is("19 now", x.agrees(), 0);
    x.tell(0, 2);
    Due.is("19 the purse is empty", x.agrees(), -2);
  }

  private static void promise20Least() {
    GirlShots x = Feeder.told("mark m 1 3;mark n 1 2;shot s 10 0;shot t 5 0;shot u 5 0;shot v 50 1;"
        + "has s m 2;has t m 1;has u m 1;has u n 1;has v m 0;");
    Due.is("20 nothing filmed", x.least(6), 0);
    x.go(1);
    Due.is("20 m, of several the first", x.least(0), 1);
    Due.is("20 n", x.least(1), 1);
    Due.is("20 not so many", x.least(2), -2);
    Due.is("20 not so many", x.least(5), -2);
    Due.is("20 cost", x.least(6), 10);
    x.go(1);
    Due.is("20 m", x.least(0), 0);
    Due.is("20 n", x.least(1), 0);
    Due.is("20 cost", x.least(6), 20);
    Due.is("20 none", x.least(7), -1);
    Due.is("20 none", x.least(-1), -1);
  }

  private static void promise21Order() {
    GirlShots x = Feeder.told(FILM + "party p hat 1 9;cold 1 1;purse 12;");
    int[] want = {2, 1, 0, -2, 1};
    for (int what = 0; what < 5; what++) Due.is("21 " + what, x.order(what), want[what]);
    for (int what : new int[] {-1, 5}) Due.is("21 none", x.order(what), -1);
    x = Feeder.told("shot a 1 9;shot b 1 9;shot c 1 9;shot d 1 9;shot e 1 9;");
    for (int what = 0; what < 4; what++) Due.is("21 the first by shots", x.order(what), what);
    Due.is("21 nothing", x.order(4), 0);
    x.move(1, 0);
    x.go(1);
    Due.is("21 what isn't filmed", x.order(1), 2);
    Due.is("21 what isn't filmed", x.order(3), 4);
    // away on the second day: t, u between s and what she would change them to
    x = Feeder.told("mark m 99 3;shot s 1 0;shot t 1 0;shot u 1 0;has s m 0;has t m 1;has u m 1;purse 0;");
    Due.is("21 t first: only s is changed", x.order(0), 1);
    Due.is("21 then s", x.order(1), 0);
    Due.is("21 then u", x.order(2), 2);
    Due.is("21 sum", x.order(4), 1);
    x.go(1);
    Due.is("21 what comes more", x.order(4), 0);
  }

  private static void promise22Noted() {
    String marks = "mark a 1 2;mark b 1 2;mark c 1 2;";
    Due.is("22", Feeder.told(marks + "clerk a 3;clerk b 4;clerk c 5;clerk d 2;").noted(), 3);
    Due.is("22 fewer go first", Feeder.told(marks + "clerk a 3;clerk b 4;clerk c 1;clerk d 63;").noted(), 8);
    Due.is("22 of several the least", Feeder.told(marks + "clerk a 1;clerk b 3;clerk c 6;clerk d 4;").noted(), 5);
    Due.is("22 by none", Feeder.told(marks + "clerk a 3;clerk b 56;").noted(), -2);
    Due.is("22 without clerks", Feeder.told(marks).noted(), -2);
    Due.is("22 without marks", Feeder.told("clerk a 3;").noted(), 0);
  }

  private static void promise23Bribe() {
    GirlShots x = Feeder.told(FILM + "party p hat 1 9;party q sea 0 9;cold 1 1;purse 12;");
    Due.is("23", x.bribe(0), 7);
    Due.is("23 she never says anything of it", x.bribe(1), -2);
    Due.is("23 none", x.bribe(2), -1);
    Due.is("23 none", x.bribe(-1), -1);
    Due.is("23 nothing comes of it", x.party(0, 2), 9);
    x.tell(0, 1);
    Due.is("23 she says so", x.bribe(0), 0);
    x = Feeder.told("mark m 9 2;party p m 1 0;law yield plums>=20;");
    x.tell(0, 0);
    Due.is("23 twenty days", x.bribe(0), 20);
    x = Feeder.told("mark m 9 2;party p m 1 99;law yield plums>=21;");
    x.tell(0, 0);
    Due.is("23 not in twenty days", x.bribe(0), -2);
  }

  private static void promise24And25Rests() {
    for (int p = 0; p < 6; p++) for (int q = 0; q < 6; q++) {
      GirlShots x = Feeder.told("mark m 9 2;party p m 0 " + p + ";party q m 1 " + q + ";");
      int k = 0;
      for (int a = 0; a <= Math.min(4, p); a++) for (int b = 0; b <= Math.min(4, q); b++) {
        boolean rest = true;
        for (int o = 0; o <= Math.min(4, p); o++) rest &= gain(o, b) <= gain(a, b);
        for (int o = 0; o <= Math.min(4, q); o++) rest &= gain(o, a) <= gain(b, a);
        if (rest) Due.is("25 " + p + " " + q, x.rest(0, 1, k++), 10 * a + b);
      }
      Due.is("24 " + p + " " + q, x.rests(0, 1), k);
      Due.is("25 no so many", x.rest(0, 1, k), -2);
      Due.is("25 below 0", x.rest(0, 1, -1), -1);
    }
    GirlShots x = Feeder.told("mark m 9 2;party p m 0 9;party q m 1 0;");
    Due.is("25", x.rest(0, 1, 0), 10);
    Due.is("25 the first one's first", x.rest(1, 0, 0), 1);
    for (int[] no : new int[][] {{0, 0}, {0, 2}, {2, 0}, {-1, 0}, {0, -1}}) {
      Due.is("24 none", x.rests(no[0], no[1]), -1);
      Due.is("25 none", x.rest(no[0], no[1], 0), -1);
    }
  }

  private static int gain(int bid, int against) {
    return (bid > against ? 10 : bid == against ? 4 : 0) - bid;
  }

  private static void promise26There() {
    GirlShots x = Feeder.told("ill 37;cold 0 3;");
    long above = 1;
    long below = 1;
    for (int n = 0; n <= 6; n++) {
      Due.is("26 above", x.there(n, 0), above);
      Due.is("26 below", x.there(n, 1), below);
      above *= 63;
      below *= 100;
    }
    x = Feeder.told("ill 60;");
    Due.is("26 least terms", x.there(2, 0), 4);
    Due.is("26 least terms", x.there(2, 1), 25);
    x = Feeder.told("ill 100;");
    Due.is("26 never", x.there(3, 0), 0);
    Due.is("26 never", x.there(3, 1), 1);
    Due.is("26 no days", x.there(0, 0), 1);
    for (int n : new int[] {-1, 7}) Due.is("26 no such n", x.there(n, 0), -1);
    for (int what : new int[] {-1, 2}) Due.is("26 no such what", x.there(1, what), -1);
  }

  private static void promise27Without() {
    GirlShots x = Feeder.told(FILM + "party p hat 1 9;cold 1 1;purse 12;");
    int[] want = {0, 0, 1, 2, 2};
    for (int n = 0; n < 5; n++) Due.is("27 " + n, x.without(n), want[n]);
    x.tell(0, 2);
    Due.is("27 clashes too", x.without(1), 0);
    Due.is("27 one again", x.count(9), 12);
    Due.is("27 99", x.without(99), x.without(50));
    for (int n : new int[] {-1, 100}) Due.is("27 none", x.without(n), -1);
    x = Feeder.told("mark m 1 3;shot s 9 0;shot t 9 0;has s m 0;has t m 1;purse 0;");
    x.tell(0, 2);
    Due.is("27 two clashes and one break", x.without(1), 3);
    Due.is("27 now", x.without(0), 0);
  }

  private static void promise28Run() {
    GirlShots x = Feeder.told("mark m 1 3;shot s 1 0;shot t 1 0;shot u 1 1;shot v 1 0;shot w 1 0;shot y 1 0;"
        + "has s m 0;has t m 1;has u m 1;has v m 1;has y m 2;");
    Due.is("28 nothing", x.run(), 0);
    x.go(1);
    Due.is("28 v w y", x.run(), 3);
    x.go(1);
    Due.is("28 t u v w y", x.run(), 5);
    Due.is("28 one", told1("shot s 1 0;").run(), 1);
  }

  private static GirlShots told1(String text) {
    GirlShots x = Feeder.told(text);
    x.go(1);
    return x;
  }

  private static void promise29Believed() {
    GirlShots x = Feeder.told("mark m 1 3;mark n 1 3;party a m 0 1;party b n 0 1;party c m 1 1;party d m 0 0;");
    Due.is("29", x.believed(), 0);
    x.tell(0, 0);
    Due.is("29", x.believed(), 9);
    x.tell(1, 0);
    Due.is("29", x.believed(), 11);
    x.tell(0, 1);
    Due.is("29", x.believed(), 6);
  }

  private static void promise30To33Seen() {
    GirlShots x = Feeder.told(FILM);
    Due.is("33 all", x.struckHow(0), 1023);
    Due.is("33 none", x.struckHow(2), -1);
    Due.is("33 none", x.struckHow(-1), -1);
    for (int days : new int[] {0, 41, -1}) Due.is("30 no such days", x.see(days, 0, true), -1);
    for (int mark : new int[] {2, -1}) Due.is("30 no such mark", x.see(1, mark, true), -1);
    Due.is("31 no such one", x.out(0), -1);
    Due.is("31 no such one", x.out(-1), -1);
    Due.is("30", x.see(40, 0, true), 0);
    Due.is("33 it strikes", x.struckHow(0), 992);
    Due.is("33 sea may be anyhow", x.struckHow(1), 1023);
    Due.is("30", x.see(1, 1, true), 1);
    Due.is("33 sea doesn't", x.struckHow(0), 0);
    Due.is("33 sea would", x.struckHow(1), 992);
    Due.is("31", x.out(1), 2);
    Due.is("33 struck", x.struckHow(1), 1023);
    Due.is("31 itself isn't there yet", x.out(3), -1);
    Due.is("31 what strikes is struck", x.out(2), 3);
    Due.is("33 it counts again", x.struckHow(0), 0);
    Due.is("31", x.out(3), 4);
    Due.is("33 struck again", x.struckHow(0), 992);
    Due.is("32 by three", x.known(3), true);
    Due.is("33 struck by the third", x.struckHow(0), 992);
    Due.is("32 by two", x.known(2), true);
    Due.is("33 not struck by these", x.struckHow(0), 0);
    Due.is("32 by four", x.known(4), true);
    Due.is("33 the fourth strikes the third", x.struckHow(0), 0);
    Due.is("32 five", x.known(5), true);
    Due.is("32 six", x.known(6), false);
    Due.is("32 -2", x.known(-2), false);
    Due.is("39 by five", x.count(13), 5);
    x.see(1, 0, false);
    Due.is("33 what comes isn't known", x.struckHow(0), 992);
    Due.is("39 by five", x.count(13), 5);
    Due.is("32 all", x.known(-1), true);
    Due.is("33 all", x.struckHow(0), 0);
    Due.is("39 by six", x.count(13), 6);
    x.known(0);
    Due.is("33 by nothing", x.struckHow(0), 1023);
    for (int k = 6; k < 24; k++) Due.is("30", k % 2 == 0 ? x.see(2, 0, true) : x.out(0), k);
    Due.is("30 full", x.see(2, 0, true), -1);
    Due.is("31 full", x.out(0), -1);
    Due.is("32 all 24", x.known(24), true);
    x = Feeder.told(FILM);
    x.tell(0, 1);
    x.tell(1, 1);
    x.go(9);
    x.see(1, 1, false);
    Due.is("33 from the text on, nothing done by call", x.struckHow(1), 31);
    x = Feeder.told("mark m 9 3;shot s 1 0;has s m 1;law notice strike>45;");
    x.see(1, 0, false);
    Due.is("33 by law", x.struckHow(0), 31);
    for (int tens = 0; tens < 10; tens++) {
      x = Feeder.told("mark m 9 3;shot s 1 39;has s m 1;law notice strike=" + 10 * tens + ";");
      x.see(40, 0, true);
      Due.is("33 behind the 40th day", x.struckHow(0), 1 << tens);
      x.see(39, 0, false);
      Due.is("33 not behind the 39th", x.struckHow(0), 1 << tens);
      x.see(39, 0, true);
      Due.is("33 both can't be", x.struckHow(0), 0);
    }
  }

  private static void promise34Chance() {
    String film = "mark m 99 3;shot s 9 0;shot t 9 1;has s m 0;has t m 1;purse 0;";
    GirlShots x = Feeder.told(film + "ill 30;");
    long number = 12345;
    int times = 0;
    for (int draw = 0; draw < 10; draw++) {
      boolean[] away = new boolean[2];
      for (int day = 0; day < 2; day++) {
        number = (number * 1103515245L + 12345L) % (1L << 31);
        away[day] = number / 65536 % 100 < 30;
      }
      if (away[0] != away[1]) times++;
    }
    Due.is("34", x.chance(12345, 2, 1), times);
    Due.is("34 not 0 or 10", times > 0 && times < 10, true);
    Due.is("34 always", x.chance(12345, 2, 0), 10);
    Due.is("34 never", x.chance(12345, 2, 2), 0);
    Due.is("34 never", x.chance(Integer.MAX_VALUE, 99, 20), 0);
    for (int[] no : new int[][] {{-1, 1, 0}, {0, 0, 0}, {0, 100, 0}, {0, 1, -1}, {0, 1, 21}})
      Due.is("34 none", x.chance(no[0], no[1], no[2]), -1);
    x.go(60);
    Due.is("34 the numbers stay", x.count(11), drawn(0, 60, 30, 1, 0));
  }

  private static void promise35Tried() {
    GirlShots x = Feeder.told(FILM + "party p hat 1 9;cold 1 1;purse 12;");
    int[][] want = {{0, 0, 2, 1}, {1, 0, 2, 0}, {2, 0, 9, 1}, {3, 0, 8, 3}, {4, 0, 9, 1}, {5, 0, 3, 1}, {0, 0, 0, 0}};
    for (int[] w : want) Due.is("35 " + w[0], x.tried(w[0], w[1], w[2]), w[3]);
    for (int[] no : new int[][] {{-1, 0, 1}, {6, 0, 1}, {0, 1, 1}, {5, 1, 1}, {2, 1, 1}, {2, -1, 1}, {0, 0, -1}, {0, 0, 100}})
      Due.is("35 none", x.tried(no[0], no[1], no[2]), -1);
    Due.is("35 all strike", x.tried(5, 0, 2), 1);
    Due.is("35 nothing comes of it", x.count(5), 0);
    x = Feeder.told("mark m 9 3;mark n 9 3;shot s 9 0;shot t 9 1;has s n 1;has t n 2;party p m 1 9;purse 0;law notice plums>0;");
    x.tell(0, 0);
    Due.is("35 she yields", x.tried(0, 0, 2), 0);
    Due.is("35 n is noticed for the plum that p gives", x.tried(0, 0, 3), x.tried(4, 0, 3));
    x = Feeder.told("mark m 9 3;shot s 9 0;shot t 9 1;has s m 1;has t m 2;cold 1 1;purse 0;law notice strike>98;");
    Due.is("35 as it goes nothing is noticed", x.tried(0, 0, 2), 0);
    Due.is("35 by 99", x.tried(5, 0, 2), 1);
    x = Feeder.told("mark m 0 3;mark n 9 3;shot s 9 0;shot t 9 1;has s m 2;has t m 2;party p m 1 9;cold 0 0;law notice 0;purse 0;");
    x.tell(0, 2);
    Due.is("35 p bribes her", x.tried(0, 0, 2), 2);
    Due.is("35 p gives nothing", x.tried(2, 0, 2), 0);
    Due.is("35 no yielding", x.tried(4, 0, 2), 0);
    Due.is("35 never away: s and t clash", x.tried(1, 0, 2), 1);
  }

  private static void promise36Undo() {
    GirlShots x = Feeder.told(FILM + "party p hat 1 9;");
    Due.is("36 nothing", x.undo(), -1);
    x.plums(0, 5);
    x.move(1, 7);
    x.tell(0, 2);
    x.tell(0, 1);
    x.forget(0);
    Due.is("36 five", x.count(14), 5);
    x.tell(0, 9);
    x.forget(0);
    x.move(1, 7);
    x.plums(0, 0);
    Due.is("36 what did nothing isn't there", x.count(14), 5);
    Due.is("36 no day", x.go(0), 0);
    Due.is("36 four", x.undo(), 4);
    Due.is("36 says", x.mark(0, 2), 1);
    Due.is("36 three", x.undo(), 3);
    Due.is("36 says", x.mark(0, 2), 2);
    Due.is("36 two", x.undo(), 2);
    Due.is("36 says", x.mark(0, 2), -1);
    Due.is("36 one", x.undo(), 1);
    Due.is("36 day", x.shot(1, 1), 1);
    Due.is("36 none", x.undo(), 0);
    Due.is("36 plums", x.party(0, 2), 9);
    Due.is("36 nothing", x.undo(), -1);
    for (int k = 1; k <= 23; k++) x.plums(0, k);
    Due.is("36 twenty at most", x.count(14), 20);
    for (int k = 19; k >= 0; k--) Due.is("36 the latest first", x.undo(), k);
    Due.is("36 the first three stay", x.party(0, 2), 9 + 1 + 2 + 3);
    x.move(0, 50);
    x.tell(1, 1);
    for (int k = 0; k < 6; k++) {
      x.plums(0, 1 + k);
      x.move(k % 2, 20 + k);
      x.tell(k % 2, k / 2 % 2);
      x.forget(k % 2);
    }
    Due.is("36 of each kind", x.count(14), 20);
    for (int k = 5; k > 0; k--) {
      Due.is("36 forget", x.undo(), 4 * k - 1);
      Due.is("36 says again", x.mark(k % 2, 2), k / 2 % 2);
      x.undo();
      Due.is("36 says what it was ahead of it", x.mark(k % 2, 2), k == 1 ? 1 : -1);
      x.undo();
      Due.is("36 the day again", x.shot(k % 2, 1), k == 1 ? 1 : 18 + k);
      x.undo();
      Due.is("36 plums again", x.party(0, 2), 15 + (k + 1) * k / 2);
    }
    Due.is("36 no more", x.undo(), -1);
    x.tell(0, 0);
    x.go(1);
    Due.is("36 a day went by", x.undo(), -1);
    Due.is("36 nothing there", x.count(14), 0);
  }

  private static void promise37And38Image() {
    GirlShots x = Feeder.told(FILM + "party p hat 1 9;cold 1 1;ill 40;seed 3;");
    Due.is("38 none", x.back(), -1);
    x.go(1);
    x.plums(0, 3);
    x.tell(1, 0);
    Due.is("37", x.keep(), 1);
    Due.is("37 undo stays", x.count(14), 2);
    x.move(2, 30);
    x.see(1, 0, true);
    x.known(1);
    x.go(30);
    int away = x.count(11);
    Due.is("38", x.back(), 1);
    Due.is("38 nothing to undo", x.undo(), -1);
    Due.is("38 plums", x.party(0, 2), 11);
    Due.is("38 gave", x.party(0, 3), 1);
    Due.is("38 says", x.mark(1, 2), 0);
    Due.is("38 day", x.shot(2, 1), 2);
    Due.is("38 filmed", x.count(6), 1);
    Due.is("38 away", x.count(11), 0);
    Due.is("38 seen stays", x.count(12), 1);
    Due.is("38 known stays", x.count(13), 1);
    x.go(30);
    Due.is("38 the same numbers", x.count(11), away);
    Due.is("38 once more", x.back(), 1);
    x.go(2);
    Due.is("37 in place of it", x.keep(), 3);
    x.go(2);
    Due.is("38", x.back(), 3);
  }

  private static void promise39Count() {
    GirlShots x = Feeder.told(FILM + "party p hat 1 9;clerk a 1;clerk b 1;cold 1 1;purse 12;law yield plums>1;");
    int[] before = {2, 3, 1, 2, 3, 0, 0, 0, 0, 12, 0, 0, 0, 0, 0};
    for (int what = 0; what < 15; what++) Due.is("39 " + what, x.count(what), before[what]);
    x.go(2);
    x.see(1, 0, true);
    x.tell(1, 0);
    int[] then = {2, 3, 1, 2, 3, 2, 2, 0, 0, 12, 2, 1, 1, 1, 1};
    for (int what = 0; what < 15; what++) Due.is("39 " + what, x.count(what), then[what]);
    Due.is("39 none", x.count(15), -1);
    Due.is("39 none", x.count(-1), -1);
    x.go(1);
    Due.is("39 changed", x.count(7), 1);
    Due.is("39 again", x.count(8), 1);
    Due.is("39 purse", x.count(9), 2);
  }
}
