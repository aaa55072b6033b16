import java.util.NoSuchElementException;

/** A girl of nine keeps the continuity of a film: what she says of its marks, and what that costs. */
public final class GirlShots {
    public static final int NONE = -1;

    /** What a question answers that may be asked, but by which nothing is so. */
    private static final int NOT_SO = -2;
    private static final int TAPE_BYTES = 700;
    private static final int FEED_BYTES = 20;
    private static final int MARKS = 6;
    private static final int SHOTS = 8;
    private static final int PARTIES = 4;
    private static final int CLERKS = 4;
    private static final int COLDS = 3;
    private static final int PAIRS = 20;
    private static final int KNOTS = 64;
    private static final int MOST_DAYS = 99;
    private static final int LAST_DAY_BY_CALL = 9900;
    private static final int LAST_DAY = 9999;
    private static final int MOST_PLUMS = 999;
    private static final int PLAN_DAYS = 20;

    private final byte[] tape = new byte[TAPE_BYTES];
    private int fed = 0;
    private final Told told = new Told();
    private final Reader reader = new Reader();
    private final Scene now = new Scene();
    private final Scene image = new Scene();
    private boolean kept = false;
    private final Days days = new Days(told);
    private final Seen seen = new Seen();
    private final Undos undos = new Undos();
    private final Least least = new Least(told);
    private final Order order = new Order();

    /** A text without lines and an empty tape. */
    public GirlShots() {
        now.open(told);
    }

    /** Twenty bytes more on the tape. */
    public int feed(int a, int b, int c, int d, int e) {
        if (fed > TAPE_BYTES - FEED_BYTES) {
            return NONE;
        }
        write(a);
        write(b);
        write(c);
        write(d);
        write(e);
        return fed;
    }

    private void write(int number) {
        for (int shift = 24; shift >= 0; shift -= 8) {
            if (fed >= 0 && fed < tape.length) {
                tape[fed] = (byte) (number >> shift);
                fed++;
            }
        }
    }

    /** The tape's first n bytes are the text. */
    public int text(int n) {
        if (n < 0 || n > fed) {
            return NOT_SO;
        }
        boolean good = reader.read(tape, n);
        fed = 0;
        if (!good) {
            return NONE;
        }
        told.copy(reader.draft);
        now.open(told);
        seen.clear();
        undos.clear();
        kept = false;
        return told.lines;
    }

    /** The fault of the latest text, or its place. */
    public int fault(int what) {
        switch (what) {
            case 0: return reader.fault;
            case 1: return reader.place;
            default: return NONE;
        }
    }

    /** The number behind a name. */
    public int named(int what, int letters) {
        switch (what) {
            case 0: return told.marks.find(letters);
            case 1: return told.shots.find(letters);
            case 2: return told.parties.find(letters);
            case 3: return told.clerks.find(letters);
            default: return NONE;
        }
    }

    /** What there is to know of a mark now. */
    public int mark(int mark, int what) throws IndexOutOfBoundsException, NoSuchElementException {
        if (!told.marks.holds(mark)) {
            throw new IndexOutOfBoundsException("no such mark");
        }
        switch (what) {
            case 0: return at(told.marks.first, mark);
            case 1: return at(told.marks.second, mark);
            case 2: return at(now.says, mark);
            case 3: return at(now.given, mark);
            case 4: return now.filmedWith(mark, NONE);
            default: throw new NoSuchElementException("no such what");
        }
    }

    /** What there is to know of a shot now. */
    public int shot(int shot, int what) {
        if (!told.shots.holds(shot)) {
            return NONE;
        }
        switch (what) {
            case 0: return at(told.shots.first, shot);
            case 1: return at(now.shotDay, shot);
            case 2: return at(now.filmed, shot);
            case 3: return at(now.filmed, shot) == 0 ? 0 : now.clashing(shot);
            case 4: return at(now.again, shot);
            default: return NONE;
        }
    }

    /** The way of a mark in a shot now. */
    public int way(int shot, int mark) {
        if (!told.shots.holds(shot) || !told.marks.holds(mark)) {
            return NONE;
        }
        int way = now.wayIn(shot, mark);
        return way < 0 ? NOT_SO : way;
    }

    /** What there is to know of a party now. */
    public int party(int party, int what) {
        if (!told.parties.holds(party)) {
            return NONE;
        }
        switch (what) {
            case 0: return at(told.parties.first, party);
            case 1: return at(told.parties.second, party);
            case 2: return at(now.left, party);
            case 3: return at(now.gave, party);
            default: return NONE;
        }
    }

    /** The marks a clerk can note, as bits. */
    public int clerk(int clerk) {
        return told.clerks.holds(clerk) ? at(told.clerks.first, clerk) : NONE;
    }

    /** What a law's side is worth now. */
    public long law(int what, int shot, int mark) {
        days.begin(now);
        switch (what) {
            case 0: return noticeNow(shot, mark);
            case 1: return told.marks.holds(mark)
                    ? days.yieldWorth(mark, at(now.given, mark) + 1) : Law.ERROR;
            case 2: return told.shots.holds(shot) ? days.againWorth(shot) : Law.ERROR;
            default: return Law.ERROR;
        }
    }

    private long noticeNow(int shot, int mark) {
        if (!told.shots.holds(shot) || !told.marks.holds(mark) || now.wayIn(shot, mark) < 0) {
            return Law.ERROR;
        }
        return days.noticeWorth(shot, mark);
    }

    /** A party has more plums. */
    public int plums(int party, int more) {
        if (!told.parties.holds(party) || more < 1 || more > 99) {
            return NONE;
        }
        int before = at(now.left, party);
        if (before + more > MOST_PLUMS) {
            return NONE;
        }
        undos.add(Undos.PLUMS, party, before);
        put(now.left, party, before + more);
        return before + more;
    }

    /** A shot that isn't filmed is put to another day. */
    public boolean move(int shot, int day) {
        if (!told.shots.holds(shot) || day < now.day || day > LAST_DAY) {
            return false;
        }
        int before = at(now.shotDay, shot);
        if (at(now.filmed, shot) != 0 || before == day) {
            return false;
        }
        undos.add(Undos.DAY, shot, before);
        put(now.shotDay, shot, day);
        return true;
    }

    /** She says from now on that a mark is in a way. */
    public boolean tell(int mark, int way) {
        if (!told.marks.holds(mark) || way < 0 || way >= at(told.marks.second, mark)) {
            return false;
        }
        return sayFromNowOn(mark, way);
    }

    /** She forgets a mark. */
    public boolean forget(int mark) {
        return told.marks.holds(mark) && sayFromNowOn(mark, NONE);
    }

    private boolean sayFromNowOn(int mark, int way) {
        int before = at(now.says, mark);
        if (before == way) {
            return false;
        }
        undos.add(Undos.SAYS, mark, before);
        put(now.says, mark, way);
        return true;
    }

    /** So many days go by. */
    public int go(int n) {
        if (n < 0 || n > MOST_DAYS || now.day + n > LAST_DAY_BY_CALL) {
            return NONE;
        }
        if (n > 0) {
            days.begin(now);
            days.mode = Days.DRAWN;
            days.pass(n);
            now.copy(days.scene);
            undos.clear();
        }
        return now.day;
    }

    /** What comes of n days as it goes. */
    public int ahead(int n, int what) {
        if (n < 0 || n > MOST_DAYS || what < 0 || what > 4) {
            return NONE;
        }
        days.begin(now);
        days.pass(n);
        switch (what) {
            case 0: return days.scene.filmedCount() - now.filmedCount();
            case 1: return days.scene.changed - now.changed;
            case 2: return days.scene.agains - now.agains;
            case 3: return days.scene.purse;
            default: return days.scene.clashCount();
        }
    }

    /** How many marks break between shots that follow one another. */
    public int breaks() {
        return now.breakCount();
    }

    /** In how many days all is filmed and nothing clashes. */
    public int agrees() {
        days.begin(now);
        for (int n = 0; n <= MOST_DAYS; n++) {
            if (days.scene.filmedCount() == told.shots.size && days.scene.clashCount() == 0) {
                return n;
            }
            days.pass(1);
        }
        return NOT_SO;
    }

    /** The ways she would say by which the least must be filmed again. */
    public int least(int what) {
        if (what < 0 || what > MARKS) {
            return NONE;
        }
        if (what < MARKS && what >= told.marks.size) {
            return NOT_SO;
        }
        least.work(now);
        return what == MARKS ? least.cost : at(least.ways, what);
    }

    /** The best row of the first four shots that aren't filmed. */
    public int order(int what) {
        if (what < 0 || what > Order.LENGTH) {
            return NONE;
        }
        order.begin(now, told.shots.size);
        for (int row = 0; row < Order.ROWS; row++) {
            if (order.isRow(row)) {
                days.begin(now);
                order.putDays(row, days.scene);
                days.pass(PLAN_DAYS);
                order.weigh(row, days.scene.changed - now.changed + days.scene.agains - now.agains);
            }
        }
        return what == Order.LENGTH ? order.fewest : order.shotAt(what);
    }

    /** The fewest clerks who can note all marks. */
    public int noted() {
        int all = (1 << told.marks.size) - 1;
        int best = NOT_SO;
        for (int clerks = 0; clerks < 1 << told.clerks.size; clerks++) {
            boolean fewer = best < 0 || Integer.bitCount(clerks) < Integer.bitCount(best);
            if (fewer && (notedBy(clerks) & all) == all) {
                best = clerks;
            }
        }
        return best;
    }

    private int notedBy(int clerks) {
        int marks = 0;
        for (int clerk = 0; clerk < told.clerks.size; clerk++) {
            if ((clerks >> clerk & 1) != 0) {
                marks |= at(told.clerks.first, clerk);
            }
        }
        return marks;
    }

    /** The fewest plums by which she says what a party wants. */
    public int bribe(int party) {
        if (!told.parties.holds(party)) {
            return NONE;
        }
        int mark = at(told.parties.first, party);
        int wanted = at(told.parties.second, party);
        // A party gives one plum a day: more plums than days change nothing.
        for (int plums = 0; plums <= PLAN_DAYS; plums++) {
            days.begin(now);
            put(days.scene.left, party, plums);
            days.pass(PLAN_DAYS);
            if (at(days.scene.says, mark) == wanted) {
                return plums;
            }
        }
        return NOT_SO;
    }

    /** How many rests the bids of two parties have. */
    public int rests(int one, int other) {
        if (!canBid(one, other)) {
            return NONE;
        }
        int found = 0;
        for (int bids = 0; bids < 25; bids++) {
            if (isRest(one, other, bids)) {
                found++;
            }
        }
        return found;
    }

    /** The k-th rest. */
    public int rest(int one, int other, int k) {
        if (!canBid(one, other) || k < 0) {
            return NONE;
        }
        int found = 0;
        for (int bids = 0; bids < 25; bids++) {
            if (isRest(one, other, bids)) {
                if (found == k) {
                    return bids / 5 * 10 + bids % 5;
                }
                found++;
            }
        }
        return NOT_SO;
    }

    private boolean canBid(int one, int other) {
        return told.parties.holds(one) && told.parties.holds(other) && one != other;
    }

    /** Bids: five times the first one's and the other one's. */
    private boolean isRest(int one, int other, int bids) {
        int mine = bids / 5;
        int yours = bids % 5;
        int myMost = Math.min(4, at(now.left, one));
        int yourMost = Math.min(4, at(now.left, other));
        return mine <= myMost && yours <= yourMost
                && isBest(mine, yours, myMost) && isBest(yours, mine, yourMost);
    }

    private static boolean isBest(int bid, int against, int most) {
        int has = gain(bid, against);
        for (int otherwise = 0; otherwise <= 4; otherwise++) {
            if (otherwise <= most && gain(otherwise, against) > has) {
                return false;
            }
        }
        return true;
    }

    private static int gain(int bid, int against) {
        if (bid == against) {
            return 4 - bid;
        }
        return bid > against ? 10 - bid : -bid;
    }

    /** How likely she is there on n days out of colds, as a fraction in least terms. */
    public long there(int n, int what) {
        if (n < 0 || n > 6 || what < 0 || what > 1) {
            return NONE;
        }
        int well = 100 - told.ill;
        int common = commonPart(well, 100);
        long above = 1;
        long below = 1;
        for (int day = 0; day < n; day++) {
            above *= common == 0 ? 0 : well / common;
            below *= common == 0 ? 1 : 100 / common;
        }
        return what == 0 ? above : below;
    }

    private static int commonPart(int a, int b) {
        int best = 1;
        for (int part = 1; part <= 100; part++) {
            if (a % part == 0 && b % part == 0) {
                best = part;
            }
        }
        return best;
    }

    /** Clashes and breaks behind n days without her. */
    public int without(int n) {
        if (n < 0 || n > MOST_DAYS) {
            return NONE;
        }
        days.begin(now);
        days.mode = Days.ALWAYS_AWAY;
        days.pass(n);
        return days.scene.clashCount() + days.scene.breakCount();
    }

    /** The longest run of shots that follows. */
    public int run() {
        int longest = 0;
        int row = 0;
        for (int shot = 0; shot < told.shots.size; shot++) {
            if (at(now.filmed, shot) == 0) {
                row = 0;
            } else if (shot > 0 && now.breaksBehind(shot - 1) > 0) {
                row = 1;
            } else {
                row++;
            }
            longest = Math.max(longest, row);
        }
        return longest;
    }

    /** The parties that want what she says, as bits. */
    public int believed() {
        int parties = 0;
        for (int party = 0; party < told.parties.size; party++) {
            if (at(now.says, at(told.parties.first, party)) == at(told.parties.second, party)) {
                parties |= 1 << party;
            }
        }
        return parties;
    }

    /** It was seen whether she said something of a mark behind so many days. */
    public int see(int days, int mark, boolean said) {
        if (days < 1 || days > Seen.MOST_DAYS || !told.marks.holds(mark)) {
            return NONE;
        }
        return seen.add(days, mark, said ? 1 : 0);
    }

    /** One that strikes one seen ahead of it. */
    public int out(int seen) {
        return seen < 0 || seen >= this.seen.size ? NONE : this.seen.add(0, seen, 0);
    }

    /** By how many of the seen it is known from now on. */
    public boolean known(int n) {
        if (n < NONE || n > seen.size) {
            return false;
        }
        seen.knownBy = n;
        return true;
    }

    /** How a mark may strike her by all that is known. */
    public int struckHow(int mark) {
        if (!told.marks.holds(mark)) {
            return NONE;
        }
        int known = seen.knownOnes();
        int last = seen.lastDay(known);
        int bits = 0;
        for (int tens = 0; tens < 10; tens++) {
            boolean fits = true;
            days.begin(now);
            days.scene.open(told);
            put(days.strikes, mark, tens * 10);
            for (int day = 1; day <= last && fits; day++) {
                days.pass(1);
                fits = seen.fits(known, day, days.scene.says);
            }
            bits |= fits ? 1 << tens : 0;
        }
        return bits;
    }

    /** In how many of ten times drawn there are so many clashes at least. */
    public int chance(int seed, int n, int clashes) {
        if (seed < 0 || n < 1 || n > MOST_DAYS || clashes < 0 || clashes > 20) {
            return NONE;
        }
        long number = seed;
        int times = 0;
        for (int draw = 0; draw < 10; draw++) {
            days.begin(now);
            days.mode = Days.DRAWN;
            days.scene.number = number;
            days.pass(n);
            number = days.scene.number;
            if (days.scene.clashCount() >= clashes) {
                times++;
            }
        }
        return times;
    }

    /** The clashes behind n days, if one thing were otherwise. */
    public int tried(int what, int i, int n) {
        boolean such = what == 2 ? told.parties.holds(i) : what >= 0 && what <= 5 && i == 0;
        if (!such || n < 0 || n > MOST_DAYS) {
            return NONE;
        }
        days.begin(now);
        days.otherwise(what, i);
        days.pass(n);
        return days.scene.clashCount();
    }

    /** The latest thing done by call is undone. */
    public int undo() {
        return undos.takeBack(now) ? undos.size : NONE;
    }

    /** An image is kept. */
    public int keep() {
        image.copy(now);
        kept = true;
        return now.day;
    }

    /** All is as in the image. */
    public int back() {
        if (!kept) {
            return NONE;
        }
        now.copy(image);
        undos.clear();
        return now.day;
    }

    /** How many there are of one kind. */
    public int count(int what) {
        switch (what) {
            case 0: return told.marks.size;
            case 1: return told.shots.size;
            case 2: return told.parties.size;
            case 3: return told.clerks.size;
            case 4: return told.knots;
            case 5: return now.day;
            case 6: return now.filmedCount();
            case 7: return now.changed;
            case 8: return now.agains;
            case 9: return now.purse;
            case 10: return now.clashCount();
            case 11: return now.awayDays;
            case 12: return seen.size;
            case 13: return seen.knownCount();
            case 14: return undos.size;
            default: return NONE;
        }
    }

    private static int at(int[] row, int i) {
        return i >= 0 && i < row.length ? row[i] : 0;
    }

    private static void put(int[] row, int i, int value) {
        if (i >= 0 && i < row.length) {
            row[i] = value;
        }
    }

    private static void fill(int[] row, int value) {
        for (int i = 0; i < row.length; i++) {
            row[i] = value;
        }
    }

    private static void copyRow(int[] from, int[] to) {
        System.arraycopy(from, 0, to, 0, Math.min(from.length, to.length));
    }

    /** Things of one kind, numbered as they come: a name and up to three numbers each. */
    private static final class Table {
        private static final int ROOM = 8;
        final int most;
        int size = 0;
        final int[] names = new int[ROOM];
        final int[] first = new int[ROOM];
        final int[] second = new int[ROOM];
        final int[] third = new int[ROOM];

        Table(int most) {
            this.most = Math.min(most, ROOM);
        }

        void clear() {
            size = 0;
            fill(names, 0);
            fill(first, 0);
            fill(second, 0);
            fill(third, 0);
        }

        void copy(Table other) {
            size = other.size;
            copyRow(other.names, names);
            copyRow(other.first, first);
            copyRow(other.second, second);
            copyRow(other.third, third);
        }

        boolean holds(int i) {
            return i >= 0 && i < size;
        }

        boolean isFull() {
            return size >= most;
        }

        int find(int name) {
            for (int i = 0; i < size; i++) {
                if (at(names, i) == name) {
                    return i;
                }
            }
            return NONE;
        }

        void add(int name, int one, int two, int three) {
            if (size < most) {
                put(names, size, name);
                put(first, size, one);
                put(second, size, two);
                put(third, size, three);
                size++;
            }
        }
    }

    /** One law's side, its knots in the order in which they are worked out. */
    private static final class Law {
        /** The least of all longs: no side is worth that. */
        static final long ERROR = 1L << 63;
        private static final long MOST = 1000000000000L;
        boolean told = false;
        int size = 0;
        final int[] kinds = new int[KNOTS];
        final int[] numbers = new int[KNOTS];
        private final long[] open = new long[KNOTS];

        void clear() {
            told = false;
            size = 0;
        }

        void copy(Law other) {
            told = other.told;
            size = other.size;
            copyRow(other.kinds, kinds);
            copyRow(other.numbers, numbers);
        }

        void add(int kind, int number) {
            if (size >= 0 && size < kinds.length && size < numbers.length) {
                kinds[size] = kind;
                numbers[size] = number;
                size++;
            }
        }

        /** ERROR, too, if the law isn't told. */
        long worth(long[] names) {
            int high = 0;
            for (int i = 0; i < size; i++) {
                int kind = at(kinds, i);
                int parts = partsOf(kind);
                long right = openAt(high - 1);
                long value = parts == 2 ? join(kind, openAt(high - 2), right)
                        : parts == 1 ? (right == 0 ? 1 : 0) : leaf(kind, at(numbers, i), names);
                if (value > MOST || value < -MOST) {
                    return ERROR;
                }
                high -= parts;
                if (high >= 0 && high < open.length) {
                    open[high] = value;
                }
                high++;
            }
            return told ? openAt(high - 1) : ERROR;
        }

        private long openAt(int i) {
            return i >= 0 && i < open.length ? open[i] : 0;
        }

        private static int partsOf(int kind) {
            if (kind == Tokens.NUMBER || kind >= Tokens.STRIKE) {
                return 0;
            }
            return kind == Tokens.NOT ? 1 : 2;
        }

        private static long leaf(int kind, int number, long[] names) {
            int name = kind - Tokens.STRIKE;
            return name >= 0 && name < names.length ? names[name] : number;
        }

        private static long join(int kind, long a, long b) {
            switch (kind) {
                case Tokens.PLUS: return a + b;
                case Tokens.MINUS: return a - b;
                case Tokens.TIMES: {
                    // A product may be beyond what a long holds: the quotient is asked first.
                    long size = a < 0 ? -a : a;
                    long other = b < 0 ? -b : b;
                    return size != 0 && other > MOST / size ? ERROR : a * b;
                }
                case Tokens.OVER: return b == 0 ? ERROR : a / b;
                case Tokens.LESS: return a < b ? 1 : 0;
                case Tokens.AT_MOST: return a <= b ? 1 : 0;
                case Tokens.SAME: return a == b ? 1 : 0;
                case Tokens.UNLIKE: return a != b ? 1 : 0;
                case Tokens.AT_LEAST: return a >= b ? 1 : 0;
                case Tokens.MORE: return a > b ? 1 : 0;
                case Tokens.AND: return a != 0 && b != 0 ? 1 : 0;
                case Tokens.OR: return a != 0 || b != 0 ? 1 : 0;
                default: return ERROR;
            }
        }
    }

    /** What a text tells. */
    private static final class Told {
        /** Strikes and ways. */
        final Table marks = new Table(MARKS);
        /** Costs and days. */
        final Table shots = new Table(SHOTS);
        /** Marks, ways and plums. */
        final Table parties = new Table(PARTIES);
        /** Marks as bits. */
        final Table clerks = new Table(CLERKS);
        /** First and last days. */
        final Table colds = new Table(COLDS);
        /** The way of each mark in each shot, shot by shot; NONE where it isn't in it. */
        final int[] ways = new int[SHOTS * MARKS];
        int pairs = 0;
        int ill = 0;
        int purse = 99;
        int seed = 0;
        int lines = 0;
        int knots = 0;
        final Law noticing = new Law();
        final Law yielding = new Law();
        final Law filmingAgain = new Law();

        Told() {
            fill(ways, NONE);
        }

        /** Ill, purse and seed are NONE until they are told. */
        void clear() {
            marks.clear();
            shots.clear();
            parties.clear();
            clerks.clear();
            colds.clear();
            fill(ways, NONE);
            pairs = 0;
            ill = NONE;
            purse = NONE;
            seed = NONE;
            lines = 0;
            knots = 0;
            noticing.clear();
            yielding.clear();
            filmingAgain.clear();
        }

        /** What wasn't told of ill, purse and seed is as it is without. */
        void settle() {
            ill = ill < 0 ? 0 : ill;
            purse = purse < 0 ? 99 : purse;
            seed = seed < 0 ? 0 : seed;
        }

        void copy(Told other) {
            marks.copy(other.marks);
            shots.copy(other.shots);
            parties.copy(other.parties);
            clerks.copy(other.clerks);
            colds.copy(other.colds);
            copyRow(other.ways, ways);
            pairs = other.pairs;
            ill = other.ill;
            purse = other.purse;
            seed = other.seed;
            lines = other.lines;
            knots = other.knots;
            noticing.copy(other.noticing);
            yielding.copy(other.yielding);
            filmingAgain.copy(other.filmingAgain);
        }

        boolean isCold(int day) {
            for (int cold = 0; cold < colds.size; cold++) {
                if (day >= at(colds.first, cold) && day <= at(colds.second, cold)) {
                    return true;
                }
            }
            return false;
        }
    }

    /** The tokens of a text, one after another. */
    private static final class Tokens {
        static final int END = 0;
        static final int BAD = 1;
        static final int NUMBER = 2;
        static final int OWN = 3;
        static final int SEMICOLON = 4;
        static final int OPEN = 5;
        static final int CLOSE = 6;
        static final int PLUS = 7;
        static final int MINUS = 8;
        static final int TIMES = 9;
        static final int OVER = 10;
        static final int LESS = 11;
        static final int AT_MOST = 12;
        static final int SAME = 13;
        static final int UNLIKE = 14;
        static final int AT_LEAST = 15;
        static final int MORE = 16;
        /** From here on the words of the language, in the order of WORDS. */
        static final int MARK = 20;
        static final int SHOT = 21;
        static final int HAS = 22;
        static final int PARTY = 23;
        static final int CLERK = 24;
        static final int COLD = 25;
        static final int ILL = 26;
        static final int PURSE = 27;
        static final int SEED = 28;
        static final int LAW = 29;
        static final int NOTICE = 30;
        static final int YIELD = 31;
        static final int AGAIN = 32;
        static final int OR = 33;
        static final int AND = 34;
        static final int NOT = 35;
        /** From here on the names of a law's side. */
        static final int STRIKE = 36;
        private static final int WORD_COUNT = 23;
        private static final int LETTERS = 6;
        private static final int TOO_MUCH = 1000000;
        /** Six signs each, in the order of their kinds. */
        private static final String WORDS =
                "mark  shot  has   party clerk cold  ill   purse seed  law   noticeyield again or    and   not   strikeplums said  times cost  day   away  ";

        private final int[] words = new int[WORD_COUNT];
        private byte[] tape = new byte[1];
        private int size = 0;
        private int next = 0;
        /** At the first fault: it stays at that token. */
        boolean stopped = false;
        int kind = END;
        int value = 0;
        int place = 0;

        Tokens() {
            for (int i = 0; i < WORDS.length(); i++) {
                int letter = WORDS.charAt(i);
                int before = at(words, i / LETTERS);
                put(words, i / LETTERS, letter == ' ' ? before : before | packed(letter, i % LETTERS));
            }
        }

        /** A letter in its place of a name's number; 0 behind the sixth. */
        private static int packed(int letter, int place) {
            return place < LETTERS ? (letter - 'a' + 1) << (5 * (LETTERS - 1 - place)) : 0;
        }

        private static boolean isLetter(int sign) {
            return sign >= 'a' && sign <= 'z';
        }

        private static boolean isDigit(int sign) {
            return sign >= '0' && sign <= '9';
        }

        private int signAt(int i) {
            return i >= 0 && i < size && i < tape.length ? tape[i] & 255 : NONE;
        }

        void begin(byte[] bytes, int n) {
            tape = bytes;
            size = n;
            next = 0;
            stopped = false;
            step();
        }

        /** The next token; behind the last one the END, its place the length. */
        void step() {
            if (stopped) {
                return;
            }
            for (int blank = signAt(next); next < size && (blank == ' ' || blank == '\n'); blank = signAt(next)) {
                next++;
            }
            place = next;
            int sign = signAt(next);
            if (sign < 0) {
                kind = END;
            } else if (isLetter(sign)) {
                word();
            } else if (isDigit(sign)) {
                number();
            } else {
                next++;
                kind = kindOf(sign, signAt(next));
                next += isPair(kind) ? 1 : 0;
            }
        }

        private void word() {
            int letters = 0;
            value = 0;
            for (int sign = signAt(next); next < size && isLetter(sign); sign = signAt(next)) {
                value |= packed(sign, letters);
                letters++;
                next++;
            }
            kind = letters > LETTERS ? BAD : OWN;
            for (int i = 0; i < words.length && kind == OWN; i++) {
                kind = words[i] == value ? MARK + i : OWN;
            }
        }

        private void number() {
            value = 0;
            for (int sign = signAt(next); next < size && isDigit(sign); sign = signAt(next)) {
                value = Math.min(value * 10 + sign - '0', TOO_MUCH);
                next++;
            }
            kind = NUMBER;
        }

        private static int kindOf(int sign, int behind) {
            switch (sign) {
                case ';': return SEMICOLON;
                case '(': return OPEN;
                case ')': return CLOSE;
                case '+': return PLUS;
                case '-': return MINUS;
                case '*': return TIMES;
                case '/': return OVER;
                case '=': return SAME;
                case '<': return behind == '=' ? AT_MOST : behind == '>' ? UNLIKE : LESS;
                case '>': return behind == '=' ? AT_LEAST : MORE;
                default: return BAD;
            }
        }

        private static boolean isPair(int kind) {
            return kind == AT_MOST || kind == UNLIKE || kind == AT_LEAST;
        }
    }

    /** Reads a text up to its first fault. */
    private static final class Reader {
        private static final int CANNOT_STAND = 1;
        private static final int TOO_MUCH = 2;
        private static final int TOLD_ALREADY = 3;
        private static final int NOT_TOLD = 4;
        private static final int MOST_OPEN = 8;
        private static final int COMPARISON = 4;

        final Told draft = new Told();
        int fault = 0;
        int place = NONE;
        private final Tokens tokens = new Tokens();
        /** Signs of a law's side that still wait for what stands right of them, and brackets. */
        private final int[] waiting = new int[KNOTS + MOST_OPEN];
        private final int[] ranks = new int[KNOTS + MOST_OPEN];
        private int waits = 0;
        private int open = 0;

        /** Whether there was no fault. */
        boolean read(byte[] tape, int n) {
            fault = 0;
            place = NONE;
            draft.clear();
            tokens.begin(tape, n);
            for (int lines = 0; lines <= n && fault == 0 && tokens.kind != Tokens.END; lines++) {
                line();
                if (tokens.kind != Tokens.SEMICOLON) {
                    fail(CANNOT_STAND);
                }
                draft.lines++;
                tokens.step();
            }
            draft.settle();
            return fault == 0;
        }

        /** The first fault stays. */
        private void fail(int what) {
            if (fault == 0) {
                fault = what;
                place = tokens.place;
                tokens.stopped = true;
            }
        }

        private void line() {
            switch (tokens.kind) {
                case Tokens.MARK: markLine(); break;
                case Tokens.SHOT: shotLine(); break;
                case Tokens.HAS: pairLine(); break;
                case Tokens.PARTY: partyLine(); break;
                case Tokens.CLERK: clerkLine(); break;
                case Tokens.COLD: coldLine(); break;
                case Tokens.ILL: draft.ill = onlyOnce(draft.ill, 100); break;
                case Tokens.PURSE: draft.purse = onlyOnce(draft.purse, 999); break;
                case Tokens.SEED: draft.seed = onlyOnce(draft.seed, 99999); break;
                case Tokens.LAW: lawLine(); break;
                default: fail(CANNOT_STAND);
            }
        }

        private void markLine() {
            begin(draft.marks.isFull());
            int name = fresh(draft.marks);
            int strikes = number(0, 99);
            int ways = number(2, 6);
            if (fault == 0) {
                draft.marks.add(name, strikes, ways, 0);
            }
        }

        private void shotLine() {
            begin(draft.shots.isFull());
            int name = fresh(draft.shots);
            int cost = number(1, 99);
            int day = number(0, 99);
            if (fault == 0) {
                draft.shots.add(name, cost, day, 0);
            }
        }

        private void pairLine() {
            begin(draft.pairs >= PAIRS);
            int shot = find(draft.shots);
            tokens.step();
            int mark = find(draft.marks);
            int pair = shot * MARKS + mark;
            if (fault == 0 && at(draft.ways, pair) >= 0) {
                fail(TOLD_ALREADY);
            }
            tokens.step();
            int way = number(0, at(draft.marks.second, mark) - 1);
            if (fault == 0) {
                put(draft.ways, pair, way);
                draft.pairs++;
            }
        }

        private void partyLine() {
            begin(draft.parties.isFull());
            int name = fresh(draft.parties);
            int mark = find(draft.marks);
            tokens.step();
            int way = number(0, at(draft.marks.second, mark) - 1);
            int plums = number(0, 99);
            if (fault == 0) {
                draft.parties.add(name, mark, way, plums);
            }
        }

        private void clerkLine() {
            begin(draft.clerks.isFull());
            int name = fresh(draft.clerks);
            int marks = number(0, 63);
            if (fault == 0) {
                draft.clerks.add(name, marks, 0, 0);
            }
        }

        private void coldLine() {
            begin(draft.colds.isFull());
            int first = number(0, 99);
            int last = number(first, 99);
            if (fault == 0) {
                draft.colds.add(0, first, last, 0);
            }
        }

        /** Past the word of a line, unless there are all that there may be. */
        private void begin(boolean full) {
            if (full) {
                fail(TOO_MUCH);
            }
            tokens.step();
        }

        /** A line that may stand once: its number. */
        private int onlyOnce(int before, int most) {
            if (before >= 0) {
                fail(TOLD_ALREADY);
            }
            tokens.step();
            return number(0, most);
        }

        /** A name that isn't told yet. */
        private int fresh(Table table) {
            int name = tokens.value;
            if (tokens.kind != Tokens.OWN) {
                fail(CANNOT_STAND);
            } else if (table.find(name) >= 0) {
                fail(TOLD_ALREADY);
            }
            tokens.step();
            return name;
        }

        /** The number behind a name that is told ahead; stays at it. */
        private int find(Table table) {
            if (tokens.kind != Tokens.OWN) {
                fail(CANNOT_STAND);
                return NONE;
            }
            int found = table.find(tokens.value);
            if (found < 0) {
                fail(NOT_TOLD);
            }
            return found;
        }

        private int number(int least, int most) {
            int number = tokens.value;
            if (tokens.kind != Tokens.NUMBER) {
                fail(CANNOT_STAND);
            } else if (number < least || number > most) {
                fail(TOO_MUCH);
            }
            tokens.step();
            return number;
        }

        private void lawLine() {
            tokens.step();
            int rule = tokens.kind;
            if (rule != Tokens.NOTICE && rule != Tokens.YIELD && rule != Tokens.AGAIN) {
                fail(CANNOT_STAND);
                return;
            }
            Law law = rule == Tokens.NOTICE ? draft.noticing
                    : rule == Tokens.YIELD ? draft.yielding : draft.filmingAgain;
            if (law.told) {
                fail(TOLD_ALREADY);
            }
            law.told = true;
            tokens.step();
            side(law);
        }

        /** A law's side, up to the semicolon behind it. */
        private void side(Law law) {
            boolean wanted = true;
            waits = 0;
            open = 0;
            for (int tokensRead = 0; tokensRead <= TAPE_BYTES && fault == 0; tokensRead++) {
                if (!wanted && open == 0 && tokens.kind == Tokens.SEMICOLON) {
                    join(law, 1);
                    return;
                }
                wanted = wanted ? operand(law) : sign(law);
                tokens.step();
            }
        }

        /** What begins an operand; whether one is still wanted behind it. */
        private boolean operand(Law law) {
            int kind = tokens.kind;
            if (kind == Tokens.NUMBER || kind >= Tokens.STRIKE) {
                knot();
                if (kind == Tokens.NUMBER && tokens.value > 9999) {
                    fail(TOO_MUCH);
                }
                law.add(kind, kind == Tokens.NUMBER ? tokens.value : 0);
                return false;
            }
            if (kind == Tokens.OPEN) {
                if (open >= MOST_OPEN) {
                    fail(TOO_MUCH);
                }
                open++;
                hold(kind);
            } else if (kind == Tokens.NOT && topRank() <= rank(Tokens.NOT)) {
                knot();
                hold(kind);
            } else {
                fail(CANNOT_STAND);
            }
            return true;
        }

        /** What stands behind an operand; whether another one is wanted then. */
        private boolean sign(Law law) {
            int kind = tokens.kind;
            if (kind == Tokens.CLOSE && open > 0) {
                join(law, 1);
                waits--;
                open--;
                return false;
            }
            int rank = rank(kind);
            if (rank == 0 || kind == Tokens.NOT) {
                fail(CANNOT_STAND);
                return true;
            }
            join(law, rank == COMPARISON ? COMPARISON + 1 : rank);
            if (rank == COMPARISON && topRank() == COMPARISON) {
                fail(CANNOT_STAND);
            }
            knot();
            hold(kind);
            return true;
        }

        private void knot() {
            if (draft.knots >= KNOTS) {
                fail(TOO_MUCH);
            } else {
                draft.knots++;
            }
        }

        private void hold(int kind) {
            if (fault == 0) {
                put(waiting, waits, kind);
                put(ranks, waits, rank(kind));
                waits++;
            }
        }

        /** The waiting signs down to a bracket go behind their operands, as far as they bind so closely. */
        private void join(Law law, int rank) {
            for (int i = waits; i > 0 && topRank() >= rank; i--) {
                law.add(at(waiting, waits - 1), 0);
                waits--;
            }
        }

        private int topRank() {
            return waits > 0 && waits <= ranks.length ? ranks[waits - 1] : 0;
        }

        /** How closely a sign binds; 0 for what is none. */
        private static int rank(int kind) {
            switch (kind) {
                case Tokens.OR: return 1;
                case Tokens.AND: return 2;
                case Tokens.NOT: return 3;
                case Tokens.LESS: case Tokens.AT_MOST: case Tokens.SAME:
                case Tokens.UNLIKE: case Tokens.AT_LEAST: case Tokens.MORE: return COMPARISON;
                case Tokens.PLUS: case Tokens.MINUS: return 5;
                case Tokens.TIMES: case Tokens.OVER: return 6;
                default: return 0;
            }
        }
    }

    /** How all stands on a day. */
    private static final class Scene {
        int day = 0;
        int purse = 0;
        int changed = 0;
        int agains = 0;
        int awayDays = 0;
        int awayRow = 0;
        /** The last one of the numbers, whole. */
        long number = 0;
        final int[] shotDay = new int[SHOTS];
        final int[] filmed = new int[SHOTS];
        final int[] again = new int[SHOTS];
        /** The way of each mark in each shot, as in what is told. */
        final int[] ways = new int[SHOTS * MARKS];
        /** NONE: she says nothing of it. */
        final int[] says = new int[MARKS];
        final int[] given = new int[MARKS];
        final int[] left = new int[PARTIES];
        final int[] gave = new int[PARTIES];

        /** As the text tells it. */
        void open(Told told) {
            day = 0;
            purse = told.purse;
            changed = 0;
            agains = 0;
            awayDays = 0;
            awayRow = 0;
            number = told.seed;
            copyRow(told.shots.second, shotDay);
            fill(filmed, 0);
            fill(again, 0);
            copyRow(told.ways, ways);
            fill(says, NONE);
            fill(given, 0);
            copyRow(told.parties.third, left);
            fill(gave, 0);
        }

        void copy(Scene other) {
            day = other.day;
            purse = other.purse;
            changed = other.changed;
            agains = other.agains;
            awayDays = other.awayDays;
            awayRow = other.awayRow;
            number = other.number;
            copyRow(other.shotDay, shotDay);
            copyRow(other.filmed, filmed);
            copyRow(other.again, again);
            copyRow(other.ways, ways);
            copyRow(other.says, says);
            copyRow(other.given, given);
            copyRow(other.left, left);
            copyRow(other.gave, gave);
        }

        /** NONE: the mark isn't in the shot. */
        int wayIn(int shot, int mark) {
            return at(ways, shot * MARKS + mark);
        }

        int marksIn(int shot) {
            int count = 0;
            for (int mark = 0; mark < MARKS; mark++) {
                count += wayIn(shot, mark) >= 0 ? 1 : 0;
            }
            return count;
        }

        /** How many marks of a shot are in another way than she says. */
        int clashing(int shot) {
            int count = 0;
            for (int mark = 0; mark < MARKS; mark++) {
                int way = wayIn(shot, mark);
                int said = at(says, mark);
                count += way >= 0 && said >= 0 && way != said ? 1 : 0;
            }
            return count;
        }

        int clashCount() {
            int count = 0;
            for (int shot = 0; shot < SHOTS; shot++) {
                count += at(filmed, shot) != 0 ? clashing(shot) : 0;
            }
            return count;
        }

        int filmedCount() {
            int count = 0;
            for (int shot = 0; shot < SHOTS; shot++) {
                count += at(filmed, shot);
            }
            return count;
        }

        /** In how many filmed shots a mark is, one shot left aside. */
        int filmedWith(int mark, int aside) {
            int count = 0;
            for (int shot = 0; shot < SHOTS; shot++) {
                count += shot != aside && at(filmed, shot) != 0 && wayIn(shot, mark) >= 0 ? 1 : 0;
            }
            return count;
        }

        int givenCount() {
            int count = 0;
            for (int mark = 0; mark < MARKS; mark++) {
                count += at(given, mark);
            }
            return count;
        }

        /** How many marks break between a shot and the next one. */
        int breaksBehind(int shot) {
            int count = 0;
            if (at(filmed, shot) != 0 && at(filmed, shot + 1) != 0) {
                for (int mark = 0; mark < MARKS; mark++) {
                    int way = wayIn(shot, mark);
                    int next = wayIn(shot + 1, mark);
                    count += way >= 0 && next >= 0 && way != next ? 1 : 0;
                }
            }
            return count;
        }

        int breakCount() {
            int count = 0;
            for (int shot = 0; shot < SHOTS - 1; shot++) {
                count += breaksBehind(shot);
            }
            return count;
        }
    }

    /** Lets days go by on a scene of its own, as they would or with one thing otherwise. */
    private static final class Days {
        /** How it is found out whether she is away. */
        static final int AS_IT_GOES = 0;
        static final int DRAWN = 1;
        static final int NEVER_AWAY = 2;
        static final int ALWAYS_AWAY = 3;

        final Scene scene = new Scene();
        final int[] strikes = new int[MARKS];
        int mode = AS_IT_GOES;
        private final Told told;
        private final long[] names = new long[7];
        /** The party that gives nothing. */
        private int silent = NONE;
        private boolean filmsAgain = true;
        private boolean yields = true;

        Days(Told told) {
            this.told = told;
        }

        void begin(Scene from) {
            scene.copy(from);
            copyRow(told.marks.first, strikes);
            mode = AS_IT_GOES;
            silent = NONE;
            filmsAgain = true;
            yields = true;
        }

        void otherwise(int what, int party) {
            mode = what == 1 ? NEVER_AWAY : AS_IT_GOES;
            silent = what == 2 ? party : NONE;
            filmsAgain = what != 3;
            yields = what != 4;
            if (what == 5) {
                fill(strikes, 99);
            }
        }

        void pass(int n) {
            for (int i = 0; i < n; i++) {
                boolean away = isAway();
                scene.awayDays += away ? 1 : 0;
                scene.awayRow = away ? scene.awayRow + 1 : 0;
                for (int shot = 0; shot < told.shots.size; shot++) {
                    if (at(scene.filmed, shot) == 0 && at(scene.shotDay, shot) == scene.day) {
                        film(shot, away);
                    }
                }
                for (int party = 0; party < told.parties.size && !away; party++) {
                    give(party);
                }
                if (filmsAgain) {
                    filmOneAgain();
                }
                scene.day++;
            }
        }

        private boolean isAway() {
            if (mode == NEVER_AWAY || mode == ALWAYS_AWAY) {
                return mode == ALWAYS_AWAY;
            }
            if (told.isCold(scene.day)) {
                return true;
            }
            if (mode == AS_IT_GOES || told.ill <= 0 || told.ill >= 100) {
                return told.ill >= 50;
            }
            scene.number = (scene.number * 1103515245L + 12345L) & 0x7fffffffL;
            return scene.number / 65536 % 100 < told.ill;
        }

        private void film(int shot, boolean away) {
            put(scene.filmed, shot, 1);
            for (int mark = 0; mark < told.marks.size && !away; mark++) {
                int way = scene.wayIn(shot, mark);
                int said = at(scene.says, mark);
                if (way >= 0 && said >= 0 && way != said) {
                    put(scene.ways, shot * MARKS + mark, said);
                    scene.changed++;
                }
                if (way >= 0 && said < 0 && isSo(noticeWorth(shot, mark), at(strikes, mark) >= 50)) {
                    put(scene.says, mark, way);
                }
            }
        }

        private void give(int party) {
            int mark = at(told.parties.first, party);
            int wanted = at(told.parties.second, party);
            int said = at(scene.says, mark);
            int left = at(scene.left, party);
            if (party == silent || left <= 0 || said < 0 || said == wanted) {
                return;
            }
            int given = at(scene.given, mark) + 1;
            put(scene.left, party, left - 1);
            put(scene.gave, party, at(scene.gave, party) + 1);
            put(scene.given, mark, given);
            if (yields && isSo(yieldWorth(mark, given), given > at(strikes, mark) / 10)) {
                put(scene.says, mark, wanted);
            }
        }

        private void filmOneAgain() {
            for (int shot = 0; shot < told.shots.size; shot++) {
                if (at(scene.filmed, shot) != 0 && scene.clashing(shot) > 0) {
                    long worth = againWorth(shot);
                    long price = worth == Law.ERROR ? at(told.shots.first, shot)
                            : Math.max(0, Math.min(999, worth));
                    if (scene.purse >= price) {
                        scene.purse -= (int) price;
                        filmAgain(shot);
                        return;
                    }
                }
            }
        }

        private void filmAgain(int shot) {
            scene.agains++;
            put(scene.again, shot, at(scene.again, shot) + 1);
            for (int mark = 0; mark < told.marks.size; mark++) {
                int said = at(scene.says, mark);
                if (said >= 0 && scene.wayIn(shot, mark) >= 0) {
                    put(scene.ways, shot * MARKS + mark, said);
                }
            }
        }

        private static boolean isSo(long worth, boolean without) {
            return worth == Law.ERROR ? without : worth != 0;
        }

        long noticeWorth(int shot, int mark) {
            return worthOf(told.noticing, at(strikes, mark), at(scene.given, mark), isSaid(mark),
                    scene.filmedWith(mark, shot), at(told.shots.first, shot));
        }

        long yieldWorth(int mark, int given) {
            return worthOf(told.yielding, at(strikes, mark), given, isSaid(mark), scene.filmedWith(mark, NONE), 0);
        }

        long againWorth(int shot) {
            return worthOf(told.filmingAgain, 0, scene.givenCount(), scene.clashing(shot), scene.marksIn(shot),
                    at(told.shots.first, shot));
        }

        private int isSaid(int mark) {
            return at(scene.says, mark) >= 0 ? 1 : 0;
        }

        private long worthOf(Law law, int strike, int plums, int said, int times, int cost) {
            if (!law.told || names.length < 7) {
                return Law.ERROR;
            }
            names[0] = strike;
            names[1] = plums;
            names[2] = said;
            names[3] = times;
            names[4] = cost;
            names[5] = scene.day;
            names[6] = scene.awayRow;
            return law.worth(names);
        }
    }

    /** Which ways of all marks, said, make the least clash of what is filmed. */
    private static final class Least {
        private static final int UNFOUND = 1000000;
        final int[] ways = new int[MARKS];
        int cost = 0;
        private final Told told;
        private final int[] trial = new int[MARKS];
        /** The filmed shots that would clash by each way of each mark, as bits. */
        private final int[] clashes = new int[MARKS * MARKS];

        Least(Told told) {
            this.told = told;
        }

        void work(Scene scene) {
            for (int mark = 0; mark < MARKS; mark++) {
                for (int way = 0; way < MARKS; way++) {
                    put(clashes, mark * MARKS + way, clashesBy(scene, mark, way));
                }
            }
            fill(ways, 0);
            cost = UNFOUND;
            choose(this, 0, 0, 0);
        }

        private static int clashesBy(Scene scene, int mark, int way) {
            int shots = 0;
            for (int shot = 0; shot < SHOTS; shot++) {
                int is = scene.wayIn(shot, mark);
                if (at(scene.filmed, shot) != 0 && is >= 0 && is != way) {
                    shots |= 1 << shot;
                }
            }
            return shots;
        }

        /** Ways for this mark and those behind it; more shots never cost less, so what is no better is left. */
        private static void choose(Least least, int mark, int shots, int sum) {
            if (sum >= least.cost) {
                return;
            }
            if (mark >= least.told.marks.size || mark >= MARKS) {
                least.cost = sum;
                copyRow(least.trial, least.ways);
                return;
            }
            for (int way = 0; way < at(least.told.marks.second, mark); way++) {
                if (least.isWorth(mark, way)) {
                    int more = at(least.clashes, mark * MARKS + way) & ~shots;
                    put(least.trial, mark, way);
                    choose(least, mark + 1, shots | more, sum + least.costOf(more));
                }
            }
        }

        /** A way isn't worth a trial behind one by which no other shots would clash. */
        private boolean isWorth(int mark, int way) {
            int shots = at(clashes, mark * MARKS + way);
            for (int before = 0; before < way; before++) {
                if ((at(clashes, mark * MARKS + before) & ~shots) == 0) {
                    return false;
                }
            }
            return true;
        }

        private int costOf(int shots) {
            int sum = 0;
            for (int shot = 0; shot < SHOTS && shots >> shot != 0; shot++) {
                sum += (shots >> shot & 1) != 0 ? at(told.shots.first, shot) : 0;
            }
            return sum;
        }
    }

    /** The rows of the first four shots that aren't filmed: each two bits a place, the first place highest. */
    private static final class Order {
        static final int LENGTH = 4;
        static final int ROWS = 256;
        int fewest = 0;
        private int best = NONE;
        private int size = 0;
        private final int[] shots = new int[LENGTH];

        void begin(Scene scene, int all) {
            size = 0;
            best = NONE;
            fewest = 0;
            for (int shot = 0; shot < all && size < LENGTH; shot++) {
                if (at(scene.filmed, shot) == 0) {
                    put(shots, size, shot);
                    size++;
                }
            }
        }

        private static int pick(int row, int place) {
            return (row >> (2 * (LENGTH - 1 - place))) & 3;
        }

        /** Whether each shot stands in it once; places behind the last shot stay as they are. */
        boolean isRow(int row) {
            int used = 0;
            for (int place = 0; place < LENGTH; place++) {
                int pick = pick(row, place);
                if ((used >> pick & 1) != 0 || place >= size && pick != place) {
                    return false;
                }
                used |= 1 << pick;
            }
            return true;
        }

        void putDays(int row, Scene scene) {
            for (int place = 0; place < size; place++) {
                put(scene.shotDay, at(shots, pick(row, place)), scene.day + place);
            }
        }

        void weigh(int row, int sum) {
            if (best < 0 || sum < fewest) {
                best = row;
                fewest = sum;
            }
        }

        int shotAt(int place) {
            return place < size ? at(shots, pick(best, place)) : NOT_SO;
        }
    }

    /** What was seen of her, and what strikes some of it. */
    private static final class Seen {
        static final int MOST_DAYS = 40;
        private static final int MOST = 24;
        int size = 0;
        /** By how many it is known; NONE: by all. */
        int knownBy = NONE;
        /** 0: it strikes the one that stands in place of the mark. */
        private final int[] day = new int[MOST];
        private final int[] which = new int[MOST];
        private final int[] said = new int[MOST];

        void clear() {
            size = 0;
            knownBy = NONE;
        }

        int add(int behind, int of, int so) {
            if (size >= MOST) {
                return NONE;
            }
            put(day, size, behind);
            put(which, size, of);
            put(said, size, so);
            size++;
            return size - 1;
        }

        int knownCount() {
            return knownBy < 0 ? size : knownBy;
        }

        /** The known ones, as bits. */
        int knownOnes() {
            int struck = 0;
            int known = 0;
            for (int i = knownCount() - 1; i >= 0; i--) {
                boolean stands = (struck >> i & 1) == 0;
                if (stands && at(day, i) == 0) {
                    struck |= 1 << at(which, i);
                } else if (stands) {
                    known |= 1 << i;
                }
            }
            return known;
        }

        int lastDay(int known) {
            int last = 0;
            for (int i = 0; i < size; i++) {
                last = (known >> i & 1) != 0 ? Math.max(last, at(day, i)) : last;
            }
            return last;
        }

        /** Whether what she says behind a day is as it is known of that day. */
        boolean fits(int known, int behind, int[] says) {
            for (int i = 0; i < size; i++) {
                boolean asked = (known >> i & 1) != 0 && at(day, i) == behind;
                int so = at(says, at(which, i)) >= 0 ? 1 : 0;
                if (asked && so != at(said, i)) {
                    return false;
                }
            }
            return true;
        }
    }

    /** What was done by call and can be undone. */
    private static final class Undos {
        static final int PLUMS = 0;
        static final int DAY = 1;
        static final int SAYS = 2;
        private static final int MOST = 20;
        int size = 0;
        private final int[] kinds = new int[MOST];
        private final int[] which = new int[MOST];
        private final int[] before = new int[MOST];

        void clear() {
            size = 0;
        }

        /** With twenty there the first one is forgotten. */
        void add(int kind, int of, int was) {
            if (size >= MOST) {
                size = MOST - 1;
                System.arraycopy(kinds, 1, kinds, 0, MOST - 1);
                System.arraycopy(which, 1, which, 0, MOST - 1);
                System.arraycopy(before, 1, before, 0, MOST - 1);
            }
            put(kinds, size, kind);
            put(which, size, of);
            put(before, size, was);
            size++;
        }

        /** Whether there was something to undo. */
        boolean takeBack(Scene scene) {
            if (size <= 0) {
                return false;
            }
            size--;
            int of = at(which, size);
            int was = at(before, size);
            switch (at(kinds, size)) {
                case PLUMS: put(scene.left, of, was); break;
                case DAY: put(scene.shotDay, of, was); break;
                default: put(scene.says, of, was);
            }
            return true;
        }
    }
}
