import java.util.ArrayList;
import java.util.HashMap;
import java.util.List;
import java.util.Map;
import java.util.NoSuchElementException;

/** The document once more, as plainly as it goes and without a thought of cost: what GirlShots is compared with. */
final class Model {
  static final class Fault extends RuntimeException {
    private static final long serialVersionUID = 1L;
    final int what;
    final int place;

    Fault(int what, int place) {
      this.what = what;
      this.place = place;
    }
  }

  private static final class ValueError extends RuntimeException {
    private static final long serialVersionUID = 1L;
  }

  /** A knot with its parts. */
  private static final class Knot {
    final String sign;
    final Knot left;
    final Knot right;

    Knot(String sign, Knot left, Knot right) {
      this.sign = sign;
      this.left = left;
      this.right = right;
    }

    long value(Map<String, Long> names) {
      long v = raw(names);
      if (v > 1_000_000_000_000L || v < -1_000_000_000_000L) throw new ValueError();
      return v;
    }

    private long raw(Map<String, Long> names) {
      if (left == null) return names.containsKey(sign) ? names.get(sign) : Long.parseLong(sign);
      long a = left.value(names);
      if (right == null) return a == 0 ? 1 : 0;
      long b = right.value(names);
      switch (sign) {
        case "+": return a + b;
        case "-": return a - b;
        case "*":
          try {
            return Math.multiplyExact(a, b);
          } catch (ArithmeticException e) {
            throw new ValueError();
          }
        case "/":
          if (b == 0) throw new ValueError();
          return a / b;
        case "<": return a < b ? 1 : 0;
        case "<=": return a <= b ? 1 : 0;
        case "=": return a == b ? 1 : 0;
        case "<>": return a != b ? 1 : 0;
        case ">=": return a >= b ? 1 : 0;
        case ">": return a > b ? 1 : 0;
        case "and": return a != 0 && b != 0 ? 1 : 0;
        default: return a != 0 || b != 0 ? 1 : 0;
      }
    }
  }

  private static final class Token {
    final String kind;
    final String text;
    final int place;

    Token(String kind, String text, int place) {
      this.kind = kind;
      this.text = text;
      this.place = place;
    }
  }

  private static final class Mark {
    String name;
    int strikes;
    int ways;
  }

  private static final class Shot {
    String name;
    int cost;
    int day;
    Map<Integer, Integer> ways = new HashMap<>();
  }

  private static final class Party {
    String name;
    int mark;
    int way;
    int plums;
  }

  private static final class Clerk {
    String name;
    int marks;
  }

  private static final class Film {
    final List<Mark> marks = new ArrayList<>();
    final List<Shot> shots = new ArrayList<>();
    final List<Party> parties = new ArrayList<>();
    final List<Clerk> clerks = new ArrayList<>();
    final List<int[]> colds = new ArrayList<>();
    final Map<String, Knot> laws = new HashMap<>();
    final Map<String, Integer> once = new HashMap<>();
    int has = 0;
    int lines = 0;
    int knots = 0;
  }

  /** Reads a text into a Film or throws its first Fault. */
  private static final class Parser {
    private static final List<String> LANGUAGE = List.of("mark", "shot", "has", "party", "clerk", "cold", "ill", "purse", "seed",
        "law", "notice", "yield", "again", "or", "and", "not", "strike", "plums", "said", "times", "cost", "day", "away");
    private static final List<String> NAMES = List.of("strike", "plums", "said", "times", "cost", "day", "away");
    final List<Token> tokens = new ArrayList<>();
    final Film film = new Film();
    int at = 0;
    int open = 0;

    Parser(String text) {
      int i = 0;
      while (i < text.length()) {
        char c = text.charAt(i);
        int from = i;
        if (c == ' ' || c == '\n') {
          i++;
        } else if (c >= 'a' && c <= 'z') {
          while (i < text.length() && text.charAt(i) >= 'a' && text.charAt(i) <= 'z') i++;
          String word = text.substring(from, i);
          tokens.add(new Token(LANGUAGE.contains(word) ? word : word.length() > 6 ? "bad" : "W", word, from));
        } else if (c >= '0' && c <= '9') {
          while (i < text.length() && text.charAt(i) >= '0' && text.charAt(i) <= '9') i++;
          tokens.add(new Token("N", text.substring(from, i), from));
        } else {
          String two = text.substring(i, Math.min(text.length(), i + 2));
          String sign = List.of("<=", ">=", "<>").contains(two) ? two : text.substring(i, i + 1);
          i += sign.length();
          tokens.add(new Token(";()+-*/<>=".contains(sign) || sign.length() == 2 ? sign : "bad", sign, from));
        }
      }
      tokens.add(new Token("end", "", text.length()));
    }

    Token now() {
      return tokens.get(at);
    }

    boolean is(String... kinds) {
      for (String kind : kinds) if (now().kind.equals(kind)) return true;
      return false;
    }

    Token take(String... kinds) {
      if (!is(kinds)) throw new Fault(1, now().place);
      return tokens.get(at++);
    }

    void refuse(boolean bad, int what) {
      if (bad) throw new Fault(what, now().place);
    }

    int number(int low, int high) {
      if (!is("N")) throw new Fault(1, now().place);
      String digits = now().text.replaceFirst("^0+(?=.)", "");
      int value = digits.length() > 7 ? Integer.MAX_VALUE : Integer.parseInt(digits);
      refuse(value < low || value > high, 2);
      at++;
      return value;
    }

    int find(List<String> names) {
      if (!is("W")) throw new Fault(1, now().place);
      refuse(!names.contains(now().text), 4);
      return names.indexOf(now().text);
    }

    String fresh(List<String> names) {
      if (!is("W")) throw new Fault(1, now().place);
      refuse(names.contains(now().text), 3);
      return take("W").text;
    }

    Film read() {
      while (!is("end")) {
        line();
        take(";");
        film.lines++;
      }
      return film;
    }

    void line() {
      if (is("ill", "purse", "seed")) {
        String word = now().kind;
        refuse(film.once.containsKey(word), 3);
        at++;
        film.once.put(word, number(0, word.equals("ill") ? 100 : word.equals("purse") ? 999 : 99999));
      } else if (is("law")) {
        at++;
        String rule = take("notice", "yield", "again").kind;
        if (film.laws.containsKey(rule)) throw new Fault(3, tokens.get(at - 1).place);
        film.laws.put(rule, e());
      } else {
        things();
      }
    }

    void things() {
      if (is("mark")) {
        refuse(film.marks.size() == 6, 2);
        at++;
        Mark m = new Mark();
        m.name = fresh(names(0, film));
        m.strikes = number(0, 99);
        m.ways = number(2, 6);
        film.marks.add(m);
      } else if (is("shot")) {
        refuse(film.shots.size() == 8, 2);
        at++;
        Shot s = new Shot();
        s.name = fresh(names(1, film));
        s.cost = number(1, 99);
        s.day = number(0, 99);
        film.shots.add(s);
      } else if (is("has")) {
        refuse(film.has == 20, 2);
        at++;
        Shot s = film.shots.get(find(names(1, film)));
        at++;
        int m = find(names(0, film));
        refuse(s.ways.containsKey(m), 3);
        at++;
        s.ways.put(m, number(0, film.marks.get(m).ways - 1));
        film.has++;
      } else if (is("party")) {
        refuse(film.parties.size() == 4, 2);
        at++;
        Party p = new Party();
        p.name = fresh(names(2, film));
        p.mark = find(names(0, film));
        at++;
        p.way = number(0, film.marks.get(p.mark).ways - 1);
        p.plums = number(0, 99);
        film.parties.add(p);
      } else if (is("clerk")) {
        refuse(film.clerks.size() == 4, 2);
        at++;
        Clerk c = new Clerk();
        c.name = fresh(names(3, film));
        c.marks = number(0, 63);
        film.clerks.add(c);
      } else {
        refuse(is("cold") && film.colds.size() == 3, 2);
        take("cold");
        int first = number(0, 99);
        film.colds.add(new int[] {first, number(first, 99)});
      }
    }

    void knot() {
      refuse(film.knots == 64, 2);
      film.knots++;
    }

    Knot e() {
      Knot k = a();
      while (is("or")) k = join(k, 0);
      return k;
    }

    Knot a() {
      Knot k = b();
      while (is("and")) k = join(k, 1);
      return k;
    }

    Knot b() {
      if (!is("not")) return c();
      knot();
      at++;
      return new Knot("not", b(), null);
    }

    Knot c() {
      Knot k = s();
      return is("<", "<=", "=", "<>", ">=", ">") ? join(k, 2) : k;
    }

    Knot s() {
      Knot k = t();
      while (is("+", "-")) k = join(k, 3);
      return k;
    }

    Knot t() {
      Knot k = p();
      while (is("*", "/")) k = join(k, 4);
      return k;
    }

    Knot join(Knot left, int level) {
      knot();
      String sign = tokens.get(at++).kind;
      return new Knot(sign, left, level == 0 ? a() : level == 1 ? b() : level == 2 ? s() : level == 3 ? t() : p());
    }

    Knot p() {
      if (is("(")) {
        refuse(open == 8, 2);
        open++;
        at++;
        Knot k = e();
        take(")");
        open--;
        return k;
      }
      if (is("N")) {
        knot();
        return new Knot(String.valueOf(number(0, 9999)), null, null);
      }
      if (!NAMES.contains(now().kind)) throw new Fault(1, now().place);
      knot();
      return new Knot(tokens.get(at++).kind, null, null);
    }
  }

  static List<String> names(int what, Film film) {
    List<String> names = new ArrayList<>();
    if (what == 0) for (Mark m : film.marks) names.add(m.name);
    if (what == 1) for (Shot s : film.shots) names.add(s.name);
    if (what == 2) for (Party p : film.parties) names.add(p.name);
    if (what == 3) for (Clerk c : film.clerks) names.add(c.name);
    return names;
  }

  /** How all stands; none of its rows is shared with another one. */
  private static final class World {
    int day = 0;
    int purse;
    int changed = 0;
    int agains = 0;
    int awayDays = 0;
    int awayRow = 0;
    long number;
    int[] shotDay;
    boolean[] filmed;
    int[] again;
    List<Map<Integer, Integer>> ways = new ArrayList<>();
    Integer[] says;
    int[] given;
    int[] left;
    int[] gave;

    World(Film f) {
      purse = f.once.getOrDefault("purse", 99);
      number = f.once.getOrDefault("seed", 0);
      shotDay = f.shots.stream().mapToInt(s -> s.day).toArray();
      filmed = new boolean[f.shots.size()];
      again = new int[f.shots.size()];
      for (Shot s : f.shots) ways.add(new HashMap<>(s.ways));
      says = new Integer[f.marks.size()];
      given = new int[f.marks.size()];
      left = f.parties.stream().mapToInt(p -> p.plums).toArray();
      gave = new int[f.parties.size()];
    }

    World(World w) {
      day = w.day;
      purse = w.purse;
      changed = w.changed;
      agains = w.agains;
      awayDays = w.awayDays;
      awayRow = w.awayRow;
      number = w.number;
      shotDay = w.shotDay.clone();
      filmed = w.filmed.clone();
      again = w.again.clone();
      for (Map<Integer, Integer> row : w.ways) ways.add(new HashMap<>(row));
      says = w.says.clone();
      given = w.given.clone();
      left = w.left.clone();
      gave = w.gave.clone();
    }

    int clash(int shot) {
      int n = 0;
      for (Map.Entry<Integer, Integer> e : ways.get(shot).entrySet())
        if (says[e.getKey()] != null && !says[e.getKey()].equals(e.getValue())) n++;
      return n;
    }

    int clashes() {
      int n = 0;
      for (int s = 0; s < filmed.length; s++) if (filmed[s]) n += clash(s);
      return n;
    }

    int filmedCount() {
      int n = 0;
      for (boolean f : filmed) if (f) n++;
      return n;
    }

    int breaks(int shot) {
      int n = 0;
      if (shot + 1 < filmed.length && filmed[shot] && filmed[shot + 1])
        for (Map.Entry<Integer, Integer> e : ways.get(shot).entrySet()) {
          Integer next = ways.get(shot + 1).get(e.getKey());
          if (next != null && !next.equals(e.getValue())) n++;
        }
      return n;
    }

    int breaks() {
      int n = 0;
      for (int s = 0; s < filmed.length; s++) n += breaks(s);
      return n;
    }
  }

  /** How days are tried. */
  private static final class How {
    boolean drawn = false;
    Boolean away = null;
    int silent = -1;
    boolean again = true;
    boolean yields = true;
    int[] strikes;
  }

  private final List<Byte> tape = new ArrayList<>();
  private Film film = new Film();
  private World now = new World(film);
  private World image = null;
  private int fault = 0;
  private int place = -1;
  private final List<int[]> seen = new ArrayList<>();
  private int knownBy = -1;
  private final List<World> undos = new ArrayList<>();

  int feed(int a, int b, int c, int d, int e) {
    if (tape.size() + 20 > 700) return -1;
    for (int n : new int[] {a, b, c, d, e}) for (int k = 3; k >= 0; k--) tape.add((byte) (n >>> 8 * k));
    return tape.size();
  }

  int text(int n) {
    if (n < 0 || n > tape.size()) return -2;
    StringBuilder text = new StringBuilder();
    for (int i = 0; i < n; i++) text.append((char) (tape.get(i) & 255));
    tape.clear();
    try {
      film = new Parser(text.toString()).read();
    } catch (Fault f) {
      fault = f.what;
      place = f.place;
      return -1;
    }
    fault = 0;
    place = -1;
    now = new World(film);
    image = null;
    seen.clear();
    knownBy = -1;
    undos.clear();
    return film.lines;
  }

  int fault(int what) {
    return what == 0 ? fault : what == 1 ? place : -1;
  }

  int named(int what, int letters) {
    if (what < 0 || what > 3) return -1;
    List<String> all = names(what, film);
    for (int i = 0; i < all.size(); i++) if (Feeder.name(all.get(i)) == letters) return i;
    return -1;
  }

  private boolean isMark(int m) {
    return m >= 0 && m < film.marks.size();
  }

  private boolean isShot(int s) {
    return s >= 0 && s < film.shots.size();
  }

  private boolean isParty(int p) {
    return p >= 0 && p < film.parties.size();
  }

  int mark(int m, int what) {
    if (!isMark(m)) throw new IndexOutOfBoundsException();
    switch (what) {
      case 0: return film.marks.get(m).strikes;
      case 1: return film.marks.get(m).ways;
      case 2: return now.says[m] == null ? -1 : now.says[m];
      case 3: return now.given[m];
      case 4: return times(now, m, -1);
      default: throw new NoSuchElementException();
    }
  }

  private int times(World w, int mark, int but) {
    int n = 0;
    for (int s = 0; s < w.filmed.length; s++) if (s != but && w.filmed[s] && w.ways.get(s).containsKey(mark)) n++;
    return n;
  }

  int shot(int s, int what) {
    if (!isShot(s)) return -1;
    switch (what) {
      case 0: return film.shots.get(s).cost;
      case 1: return now.shotDay[s];
      case 2: return now.filmed[s] ? 1 : 0;
      case 3: return now.filmed[s] ? now.clash(s) : 0;
      case 4: return now.again[s];
      default: return -1;
    }
  }

  int way(int s, int m) {
    if (!isShot(s) || !isMark(m)) return -1;
    return now.ways.get(s).getOrDefault(m, -2);
  }

  int party(int p, int what) {
    if (!isParty(p)) return -1;
    Party it = film.parties.get(p);
    return what == 0 ? it.mark : what == 1 ? it.way : what == 2 ? now.left[p] : what == 3 ? now.gave[p] : -1;
  }

  int clerk(int c) {
    return c >= 0 && c < film.clerks.size() ? film.clerks.get(c).marks : -1;
  }

  private Long worth(String rule, World w, long strike, long plums, long said, long times, long cost) {
    Knot k = film.laws.get(rule);
    if (k == null) return null;
    Map<String, Long> names = new HashMap<>();
    names.put("strike", strike);
    names.put("plums", plums);
    names.put("said", said);
    names.put("times", times);
    names.put("cost", cost);
    names.put("day", (long) w.day);
    names.put("away", (long) w.awayRow);
    try {
      return k.value(names);
    } catch (ValueError e) {
      return null;
    }
  }

  private Long notice(World w, How how, int s, int m) {
    return worth("notice", w, how.strikes[m], w.given[m], w.says[m] == null ? 0 : 1, times(w, m, s), film.shots.get(s).cost);
  }

  private Long yields(World w, How how, int m, int given) {
    return worth("yield", w, how.strikes[m], given, w.says[m] == null ? 0 : 1, times(w, m, -1), 0);
  }

  private Long again(World w, int s) {
    int all = 0;
    for (int g : w.given) all += g;
    return worth("again", w, 0, all, w.clash(s), w.ways.get(s).size(), film.shots.get(s).cost);
  }

  private How how() {
    How how = new How();
    how.strikes = film.marks.stream().mapToInt(m -> m.strikes).toArray();
    return how;
  }

  long law(int what, int s, int m) {
    Long v = null;
    if (what == 0 && isShot(s) && isMark(m) && now.ways.get(s).containsKey(m)) v = notice(now, how(), s, m);
    if (what == 1 && isMark(m)) v = yields(now, how(), m, now.given[m] + 1);
    if (what == 2 && isShot(s)) v = again(now, s);
    return v == null ? Long.MIN_VALUE : v;
  }

  private void day(World w, How how) {
    boolean away = away(w, how);
    if (away) w.awayDays++;
    w.awayRow = away ? w.awayRow + 1 : 0;
    for (int s = 0; s < w.filmed.length; s++) {
      if (w.filmed[s] || w.shotDay[s] != w.day) continue;
      w.filmed[s] = true;
      for (int m = 0; m < film.marks.size(); m++) {
        Integer way = w.ways.get(s).get(m);
        if (away || way == null) continue;
        if (w.says[m] != null) {
          if (!w.says[m].equals(way)) w.changed++;
          w.ways.get(s).put(m, w.says[m]);
        } else {
          Long v = notice(w, how, s, m);
          if (v == null ? how.strikes[m] >= 50 : v != 0) w.says[m] = way;
        }
      }
    }
    for (int p = 0; p < film.parties.size(); p++) {
      int m = film.parties.get(p).mark;
      int wanted = film.parties.get(p).way;
      if (away || p == how.silent || w.left[p] == 0 || w.says[m] == null || w.says[m] == wanted) continue;
      w.left[p]--;
      w.gave[p]++;
      w.given[m]++;
      Long v = yields(w, how, m, w.given[m]);
      if (how.yields && (v == null ? w.given[m] > how.strikes[m] / 10 : v != 0)) w.says[m] = wanted;
    }
    for (int s = 0; s < w.filmed.length && how.again; s++) {
      if (!w.filmed[s] || w.clash(s) == 0) continue;
      Long v = again(w, s);
      long price = v == null ? film.shots.get(s).cost : v < 0 ? 0 : v > 999 ? 999 : v;
      if (w.purse < price) continue;
      w.purse -= (int) price;
      w.again[s]++;
      w.agains++;
      for (int m = 0; m < film.marks.size(); m++)
        if (w.says[m] != null && w.ways.get(s).containsKey(m)) w.ways.get(s).put(m, w.says[m]);
      break;
    }
    w.day++;
  }

  private boolean away(World w, How how) {
    if (how.away != null) return how.away;
    for (int[] cold : film.colds) if (w.day >= cold[0] && w.day <= cold[1]) return true;
    int ill = film.once.getOrDefault("ill", 0);
    if (!how.drawn) return ill >= 50;
    if (ill == 0 || ill == 100) return ill == 100;
    w.number = (w.number * 1103515245L + 12345L) % 2147483648L;
    return w.number / 65536 % 100 < ill;
  }

  private World ahead(World from, How how, int n) {
    World w = new World(from);
    for (int i = 0; i < n; i++) day(w, how);
    return w;
  }

  private void remember() {
    undos.add(new World(now));
    if (undos.size() > 20) undos.remove(0);
  }

  int plums(int p, int more) {
    if (!isParty(p) || more < 1 || more > 99 || now.left[p] + more > 999) return -1;
    remember();
    return now.left[p] += more;
  }

  boolean move(int s, int day) {
    if (!isShot(s) || day < now.day || day > 9999 || now.filmed[s] || now.shotDay[s] == day) return false;
    remember();
    now.shotDay[s] = day;
    return true;
  }

  boolean tell(int m, int way) {
    if (!isMark(m) || way < 0 || way >= film.marks.get(m).ways || now.says[m] != null && now.says[m] == way) return false;
    remember();
    now.says[m] = way;
    return true;
  }

  boolean forget(int m) {
    if (!isMark(m) || now.says[m] == null) return false;
    remember();
    now.says[m] = null;
    return true;
  }

  int go(int n) {
    if (n < 0 || n > 99 || now.day + n > 9900) return -1;
    How how = how();
    how.drawn = true;
    now = ahead(now, how, n);
    if (n > 0) undos.clear();
    return now.day;
  }

  int ahead(int n, int what) {
    if (n < 0 || n > 99 || what < 0 || what > 4) return -1;
    World w = ahead(now, how(), n);
    return new int[] {w.filmedCount() - now.filmedCount(), w.changed - now.changed, w.agains - now.agains, w.purse, w.clashes()}[what];
  }

  int breaks() {
    return now.breaks();
  }

  int agrees() {
    for (int n = 0; n <= 99; n++) {
      World w = ahead(now, how(), n);
      if (w.filmedCount() == w.filmed.length && w.clashes() == 0) return n;
    }
    return -2;
  }

  int least(int what) {
    if (what < 0 || what > 6) return -1;
    int[] best = null;
    int cost = 0;
    int all = 1;
    for (Mark m : film.marks) all *= m.ways;
    for (int code = 0; code < all; code++) {
      int[] ways = new int[film.marks.size()];
      int rest = code;
      for (int m = ways.length - 1; m >= 0; m--) {
        ways[m] = rest % film.marks.get(m).ways;
        rest /= film.marks.get(m).ways;
      }
      int sum = 0;
      for (int s = 0; s < now.filmed.length; s++) {
        boolean clash = false;
        for (int m = 0; m < ways.length; m++) clash |= now.ways.get(s).getOrDefault(m, ways[m]) != ways[m];
        if (now.filmed[s] && clash) sum += film.shots.get(s).cost;
      }
      if (best == null || sum < cost) {
        best = ways;
        cost = sum;
      }
    }
    return what == 6 ? cost : what < best.length ? best[what] : -2;
  }

  private int[] bestRow = null;
  private int bestSum = 0;

  int order(int what) {
    if (what < 0 || what > 4) return -1;
    List<Integer> open = new ArrayList<>();
    for (int s = 0; s < now.filmed.length && open.size() < 4; s++) if (!now.filmed[s]) open.add(s);
    bestRow = null;
    rows(open, new ArrayList<>());
    return what == 4 ? bestSum : what < bestRow.length ? bestRow[what] : -2;
  }

  private void rows(List<Integer> open, List<Integer> row) {
    if (row.size() == open.size()) {
      World w = new World(now);
      for (int k = 0; k < row.size(); k++) w.shotDay[row.get(k)] = now.day + k;
      w = ahead(w, how(), 20);
      int sum = w.changed + w.agains - now.changed - now.agains;
      if (bestRow == null || sum < bestSum) {
        bestRow = row.stream().mapToInt(s -> s).toArray();
        bestSum = sum;
      }
      return;
    }
    for (int s : open) {
      if (row.contains(s)) continue;
      row.add(s);
      rows(open, row);
      row.remove(row.size() - 1);
    }
  }

  int noted() {
    for (int count = 0; count <= film.clerks.size(); count++)
      for (int bits = 0; bits < 16; bits++) {
        if (Integer.bitCount(bits) != count || bits >> film.clerks.size() != 0) continue;
        boolean all = true;
        for (int m = 0; m < film.marks.size(); m++) {
          boolean one = false;
          for (int c = 0; c < film.clerks.size(); c++) one |= (bits >> c & 1) == 1 && (film.clerks.get(c).marks >> m & 1) == 1;
          all &= one;
        }
        if (all) return bits;
      }
    return -2;
  }

  int bribe(int p) {
    if (!isParty(p)) return -1;
    for (int plums = 0; plums <= 99; plums++) {
      World w = new World(now);
      w.left[p] = plums;
      Integer says = ahead(w, how(), 20).says[film.parties.get(p).mark];
      if (says != null && says == film.parties.get(p).way) return plums;
    }
    return -2;
  }

  private List<Integer> restsOf(int one, int other) {
    List<Integer> found = new ArrayList<>();
    for (int a = 0; a <= 4 && a <= now.left[one]; a++)
      for (int b = 0; b <= 4 && b <= now.left[other]; b++) {
        boolean rest = true;
        for (int o = 0; o <= 4 && o <= now.left[one]; o++) rest &= has(o, b) <= has(a, b);
        for (int o = 0; o <= 4 && o <= now.left[other]; o++) rest &= has(o, a) <= has(b, a);
        if (rest) found.add(10 * a + b);
      }
    return found;
  }

  private static int has(int gives, int other) {
    return (gives > other ? 10 : gives == other ? 4 : 0) - gives;
  }

  int rests(int one, int other) {
    return !isParty(one) || !isParty(other) || one == other ? -1 : restsOf(one, other).size();
  }

  int rest(int one, int other, int k) {
    if (!isParty(one) || !isParty(other) || one == other || k < 0) return -1;
    List<Integer> found = restsOf(one, other);
    return k < found.size() ? found.get(k) : -2;
  }

  long there(int n, int what) {
    if (n < 0 || n > 6 || what < 0 || what > 1) return -1;
    java.math.BigInteger above = java.math.BigInteger.valueOf(100 - film.once.getOrDefault("ill", 0)).pow(n);
    java.math.BigInteger below = java.math.BigInteger.valueOf(100).pow(n);
    return (what == 0 ? above : below).divide(above.gcd(below)).longValueExact();
  }

  int without(int n) {
    if (n < 0 || n > 99) return -1;
    How how = how();
    how.away = true;
    World w = ahead(now, how, n);
    return w.clashes() + w.breaks();
  }

  int run() {
    int best = 0;
    for (int from = 0; from < now.filmed.length; from++)
      for (int to = from; to < now.filmed.length; to++) {
        boolean good = now.filmed[to];
        for (int s = from; s < to; s++) good &= now.filmed[s] && now.breaks(s) == 0;
        if (good) best = Math.max(best, to - from + 1);
      }
    return best;
  }

  int believed() {
    int bits = 0;
    for (int p = 0; p < film.parties.size(); p++) {
      Integer says = now.says[film.parties.get(p).mark];
      if (says != null && says == film.parties.get(p).way) bits |= 1 << p;
    }
    return bits;
  }

  int see(int days, int m, boolean said) {
    if (days < 1 || days > 40 || !isMark(m) || seen.size() == 24) return -1;
    seen.add(new int[] {days, m, said ? 1 : 0});
    return seen.size() - 1;
  }

  int out(int s) {
    if (s < 0 || s >= seen.size() || seen.size() == 24) return -1;
    seen.add(new int[] {s});
    return seen.size() - 1;
  }

  boolean known(int n) {
    if (n < -1 || n > seen.size()) return false;
    knownBy = n;
    return true;
  }

  private boolean struck(int i, int by) {
    for (int j = i + 1; j < by; j++) if (seen.get(j).length == 1 && seen.get(j)[0] == i && !struck(j, by)) return true;
    return false;
  }

  int struckHow(int m) {
    if (!isMark(m)) return -1;
    int by = knownBy < 0 ? seen.size() : knownBy;
    int bits = 0;
    for (int k = 0; k < 10; k++) {
      How how = how();
      how.strikes[m] = 10 * k;
      boolean good = true;
      for (int i = 0; i < by && good; i++) {
        int[] one = seen.get(i);
        if (one.length == 3 && !struck(i, by)) good = (ahead(new World(film), how, one[0]).says[one[1]] != null) == (one[2] == 1);
      }
      if (good) bits |= 1 << k;
    }
    return bits;
  }

  int chance(int seed, int n, int clashes) {
    if (seed < 0 || n < 1 || n > 99 || clashes < 0 || clashes > 20) return -1;
    How how = how();
    how.drawn = true;
    World from = new World(now);
    from.number = seed;
    int times = 0;
    for (int k = 0; k < 10; k++) {
      World w = ahead(from, how, n);
      from.number = w.number;
      if (w.clashes() >= clashes) times++;
    }
    return times;
  }

  int tried(int what, int i, int n) {
    if (what < 0 || what > 5 || n < 0 || n > 99 || (what == 2 ? !isParty(i) : i != 0)) return -1;
    How how = how();
    if (what == 1) how.away = false;
    if (what == 2) how.silent = i;
    if (what == 3) how.again = false;
    if (what == 4) how.yields = false;
    if (what == 5) java.util.Arrays.fill(how.strikes, 99);
    return ahead(now, how, n).clashes();
  }

  int undo() {
    if (undos.isEmpty()) return -1;
    now = undos.remove(undos.size() - 1);
    return undos.size();
  }

  int keep() {
    image = new World(now);
    return now.day;
  }

  int back() {
    if (image == null) return -1;
    now = new World(image);
    undos.clear();
    return now.day;
  }

  int count(int what) {
    if (what < 0 || what > 14) return -1;
    return new int[] {film.marks.size(), film.shots.size(), film.parties.size(), film.clerks.size(), film.knots, now.day,
        now.filmedCount(), now.changed, now.agains, now.purse, now.clashes(), now.awayDays, seen.size(),
        knownBy < 0 ? seen.size() : knownBy, undos.size()}[what];
  }
}
