import java.util.Arrays;

/**
 * The hat goes left at a lie: a ring of guests and a hat that goes to the right when what is so is
 * said and to the left when it is not. ../shared/DOC.md tells what each call answers.
 */
public final class HatGoes {
    public static final int NONE = -1, BAD = -2, STATE = -3, FULL = -4;
    public static final long NO = Long.MIN_VALUE;

    private static final int NEVER = -5;
    private static final int FAULTS_FROM = -10;
    private static final int NOTHING = -11, CAST = -12, PLACE = -13, SIZE = -14;
    private static final int LIKED_NONE = -1001, LIKED_BAD = -1002;
    private static final int JUDGED_FROM = 100, SAID_FROM = 10;
    private static final int KINDS = 7, GUESTS = 7, FACTS = 8, WAYS = 256, MOST_V = 9;
    private static final int HOUSES = 6, TAPES = 6, ITEMS = 60, SIGNS = 100, LAST_SIGN = 127;
    private static final int LONG_RUN = 60, SHORT_RUN = 12, BY_HAND = 12, LAST_HOUR = 9999;
    private static final int TENTHS = 10;

    private final Evening now;
    private final Evening kept;
    private boolean imaged;
    private final House[] houses;
    private int houseCount;
    private final byte[] text;
    private int textLength;
    private final Tape[] tapes;
    private final Trace trace;

    // Rows that the questions work in, made once so that no call makes new ones.
    private final int[] path;
    private final long[] chances;
    private final long[] chancesThen;
    private final int[] sums;
    private final int[] sumsThen;

    public HatGoes() {
        now = new Evening();
        kept = new Evening();
        houses = new House[HOUSES];
        for (int k = 0; k < houses.length; k++) {
            houses[k] = new House();
        }
        text = new byte[SIGNS];
        tapes = new Tape[TAPES];
        for (int k = 0; k < tapes.length; k++) {
            tapes[k] = new Tape();
        }
        trace = new Trace();
        path = new int[SHORT_RUN];
        chances = new long[GUESTS];
        chancesThen = new long[GUESTS];
        sums = new int[GUESTS];
        sumsThen = new int[GUESTS];
    }

    // ---- guests, facts, houses

    public int guest(int kind, int v, int knows) {
        if (kind < 0 || kind >= KINDS) {
            return NONE;
        }
        if (v < 0 || v > MOST_V || knows < 0 || knows >= WAYS) {
            return BAD;
        }
        if (now.seated >= GUESTS) {
            return FULL;
        }
        return now.sits(newGuest(kind, now.seated, v, knows));
    }

    public int of(int guest, int what) {
        Guest it = now.guestAt(guest);
        if (it == null) {
            return NONE;
        }
        switch (what) {
            case 0: return it.kind;
            case 1: return it.v;
            case 2: return it.knows;
            case 3: return now.lies(it, now.hour);
            case 4: return now.worth(it, now.hour, now.facts);
            case 5: return it.says(now, now.hour, now.facts);
            default: return NONE;
        }
    }

    public int fact(int fact, boolean is) {
        if (fact < 0 || fact >= FACTS) {
            return NONE;
        }
        int was = now.facts >> fact & 1;
        now.facts = withBit(now.facts, fact, is);
        return was;
    }

    public int hat(int guest) {
        if (now.guestAt(guest) == null) {
            return NONE;
        }
        int was = now.hat;
        now.hat = guest;
        return was;
    }

    public int row(int guest, int part, int n) {
        Guest it = now.guestAt(guest);
        if (it == null || part < 0 || part >= FACTS) {
            return NONE;
        }
        if (n != 0 && n != 1) {
            return BAD;
        }
        if (!(it instanceof Told)) {
            return STATE;
        }
        int was = now.rowAt(guest) >> part & 1;
        now.setRow(guest, withBit(now.rowAt(guest), part, n == 1));
        return was;
    }

    public int feed(int sign) {
        if (sign < 0 || sign > LAST_SIGN) {
            return BAD;
        }
        if (textLength >= text.length) {
            return FULL;
        }
        text[textLength] = (byte) sign;
        textLength++;
        return textLength;
    }

    public int house() {
        if (houseCount >= houses.length) {
            return FULL;
        }
        House next = houses[houseCount];
        if (next == null) {
            return FULL;
        }
        int fault = next.parse(text, textLength);
        textLength = 0;
        if (fault >= 0) {
            return FAULTS_FROM - fault;
        }
        now.house = next;
        houseCount++;
        return houseCount - 1;
    }

    public int told(int what) {
        switch (what) {
            case 0: return now.seated > 0 ? now.hat : NEVER;
            case 1: return now.hour;
            case 2: return now.far();
            case 3: return now.facts;
            default: return NONE;
        }
    }

    // ---- sayings

    public int saying() {
        if (now.seated == 0 || now.hour >= LAST_HOUR) {
            return STATE;
        }
        int said = now.says(now.hat, now.hour, now.facts);
        now.hat = now.goes(now.hat, said);
        now.hour++;
        return said;
    }

    public int at(int n, int what) {
        int speaker = what >= SAID_FROM ? what - SAID_FROM : NONE;
        if (what != 0 && what != 1 && now.guestAt(speaker) == null) {
            return NONE;
        }
        if (n < 0 || n > LONG_RUN) {
            return BAD;
        }
        if (now.seated == 0) {
            return STATE;
        }
        int seat = now.hat;
        int lies = 0;
        int spoken = 0;
        for (int k = 0; k < n; k++) {
            int said = now.says(seat, now.hour + k, now.facts);
            lies += said == 0 ? 1 : 0;
            spoken += seat == speaker ? 1 : 0;
            seat = now.goes(seat, said);
        }
        return what == 0 ? seat : what == 1 ? lies : spoken;
    }

    public int comes(int guest) {
        if (now.guestAt(guest) == null) {
            return NONE;
        }
        return firstAt(guest, LONG_RUN);
    }

    public int soonest(int from, int to) {
        if (now.guestAt(from) == null || now.guestAt(to) == null) {
            return NONE;
        }
        int reached = 1 << from;
        for (int k = 0; k < GUESTS; k++) {
            if ((reached >> to & 1) == 1) {
                return k;
            }
            int before = reached;
            for (int seat = 0; seat < now.seated; seat++) {
                if ((before >> seat & 1) == 1) {
                    reached |= 1 << now.goes(seat, 0) | 1 << now.goes(seat, 1);
                }
            }
        }
        return NEVER;
    }

    public int keeps(int guest, int n) {
        if (now.guestAt(guest) == null) {
            return NONE;
        }
        if (n < 0 || n > SHORT_RUN) {
            return BAD;
        }
        Arrays.fill(sums, 0);
        addTo(sums, now.hat, now.hat == guest ? 0 : 1);
        for (int k = 0; k < n; k++) {
            spreadRowsBut(guest);
        }
        int all = 0;
        for (int seat = 0; seat < sums.length; seat++) {
            all += sums[seat];
        }
        return all;
    }

    // ---- where it was, what a stranger knows

    public int was(int guest) {
        if (guest == -1) {
            now.wasCount = 0;
            return 0;
        }
        if (now.guestAt(guest) == null) {
            return NONE;
        }
        if (now.wasCount >= now.was.length) {
            return FULL;
        }
        now.was[now.wasCount] = guest;
        now.wasCount++;
        return now.wasCount;
    }

    public int lied(int what) {
        if (what < 0 || what > 3) {
            return NONE;
        }
        if (now.wasCount > 0 && now.was[0] != now.hat) {
            return NEVER;
        }
        int must = 0;
        int may = 0;
        for (int k = 0; k + 1 < now.wasCount && k + 1 < now.was.length; k++) {
            boolean left = now.goes(now.was[k], 0) == now.was[k + 1];
            boolean right = now.goes(now.was[k], 1) == now.was[k + 1];
            if (!left && !right) {
                return NEVER;
            }
            must = withBit(must, k, !right);
            may = withBit(may, k, left);
        }
        switch (what) {
            case 0: return Integer.bitCount(must);
            case 1: return Integer.bitCount(may);
            case 2: return must;
            default: return may;
        }
    }

    public int stranger(int n, int what) {
        if (what < 0 || what > 2) {
            return NONE;
        }
        if (n < 0 || n > SHORT_RUN) {
            return BAD;
        }
        if (now.seated == 0) {
            return STATE;
        }
        walkTruly(n);
        int ways = 0;
        int soInAll = WAYS - 1;
        int notInAll = WAYS - 1;
        for (int facts = 0; facts < WAYS; facts++) {
            if (goesAlike(n, facts)) {
                ways++;
                soInAll &= facts;
                notInAll &= ~facts;
            }
        }
        return what == 0 ? ways : what == 1 ? soInAll | notInAll : soInAll;
    }

    // ---- what is best

    public int wants(int guest, int n, int what) {
        return liked(guest, n, what, true);
    }

    public int rid(int guest, int n, int what) {
        return liked(guest, n, what, false);
    }

    public int two(int guest) {
        if (now.guestAt(guest) == null) {
            return NONE;
        }
        int first = now.hat;
        int second = guest;
        for (int k = 0; k <= LONG_RUN; k++) {
            if (first == second) {
                return k;
            }
            first = now.goes(first, now.says(first, now.hour + k, now.facts));
            second = now.goes(second, now.says(second, now.hour + k, now.facts));
        }
        return NEVER;
    }

    // ---- odds, means, books

    public long odds(int guest, int n, int part) {
        if (now.guestAt(guest) == null || guest >= chances.length || !isFraction(n, part)) {
            return NO;
        }
        startChances();
        long below = 1;
        for (int k = 0; k < n; k++) {
            spreadChances(now.hour + k);
            below *= TENTHS;
        }
        return lowest(chances[guest], below, part);
    }

    public long mean(int n, int part) {
        if (now.seated == 0 || !isFraction(n, part)) {
            return NO;
        }
        startChances();
        long above = 0;
        long below = 1;
        for (int k = 0; k < n; k++) {
            if (k > 0) {
                spreadChances(now.hour + k - 1);
                above *= TENTHS;
                below *= TENTHS;
            }
            above += likelyWorth(now.hour + k);
        }
        return lowest(above, below, part);
    }

    public int book(int said) {
        if (said == -1) {
            now.bookCount = 0;
            return 0;
        }
        if (said != 0 && said != 1) {
            return BAD;
        }
        if (now.bookCount >= now.book.length) {
            return FULL;
        }
        now.book[now.bookCount] = said;
        now.bookCount++;
        return now.bookCount;
    }

    public int looked() {
        if (now.seated == 0) {
            return STATE;
        }
        int seat = now.hat;
        for (int k = 0; k < now.bookCount && k < now.book.length; k++) {
            int said = now.says(seat, now.hour + k, now.facts);
            if (now.book[k] != said) {
                return k;
            }
            seat = now.goes(seat, said);
        }
        return NEVER;
    }

    // ---- judging, the image, acts, tapes

    public int judge(int tape, int i) {
        Tape row = tapeAt(tape);
        if (row == null) {
            return NONE;
        }
        if (!row.isEmpty() && row.sort != Tape.BOOLEANS) {
            return CAST;
        }
        for (int fact = 0; fact < FACTS; fact++) {
            if (!row.has(i + fact)) {
                return JUDGED_FROM + fact;
            }
            if (row.get(i + fact) != (now.facts >> fact & 1)) {
                return fact;
            }
        }
        return NEVER;
    }

    public int image() {
        kept.becomes(now);
        imaged = true;
        return kept.seated;
    }

    public int undo() {
        if (!imaged) {
            return STATE;
        }
        now.becomes(kept);
        return now.seated;
    }

    public int act(int guest, int act, int x) {
        trace.clear();
        Guest it = now.guestAt(guest);
        if (it == null) {
            return 0;
        }
        switch (act) {
            case 0: return it.speaks(x, trace);
            case 1: return it.passes(x, trace);
            case 2: return it.tells(x, trace);
            default: return 0;
        }
    }

    public int trace(int i) {
        return trace.body(i);
    }

    public int taken(int guest, int k) {
        if (k < 0 || k >= KINDS) {
            return BAD;
        }
        Guest it = now.guestAt(guest);
        if (it == null) {
            return NOTHING;
        }
        return isOfKind(it, k) ? it.kind : CAST;
    }

    public int count(int what) {
        switch (what) {
            case 0: return now.seated;
            case 1: return houseCount;
            case 2: return now.wasCount;
            case 3: return now.bookCount;
            case 4: return textLength;
            case 5: return trace.ran;
            default: return BAD;
        }
    }

    public int tape(int tape, int sort, int n) {
        Tape row = tapeAt(tape);
        if (row == null) {
            return NONE;
        }
        if (sort < Tape.EMPTY || sort > Tape.BOOLEANS) {
            return BAD;
        }
        if (sort == Tape.EMPTY) {
            row.becomes(sort, 0);
            return 1;
        }
        if (n > ITEMS) {
            return BAD;
        }
        if (n < 0) {
            return SIZE;
        }
        row.becomes(sort, n);
        return 1;
    }

    public int item(int tape, int i, long v) {
        Tape row = tapeAt(tape);
        if (row == null) {
            return NONE;
        }
        if (row.isEmpty()) {
            return NOTHING;
        }
        if (!row.has(i)) {
            return PLACE;
        }
        row.put(i, v);
        return 1;
    }

    public long read(int tape, int i) {
        Tape row = tapeAt(tape);
        return row == null || !row.has(i) ? NO : row.get(i);
    }

    public int shift(int tape, int i, int other, int j, int n) {
        Tape from = tapeAt(tape);
        Tape to = tapeAt(other);
        if (from == null || to == null) {
            return NONE;
        }
        if (from.isEmpty() || to.isEmpty()) {
            return NOTHING;
        }
        if (from.sort != to.sort) {
            return CAST;
        }
        if (!from.spans(i, n) || !to.spans(j, n)) {
            return PLACE;
        }
        System.arraycopy(from.items, i, to.items, j, n);
        return n;
    }

    // What the calls above share.

    private Tape tapeAt(int number) {
        return number < 0 || number >= tapes.length ? null : tapes[number];
    }

    private static int withBit(int bits, int bit, boolean is) {
        return is ? bits | 1 << bit : bits & ~(1 << bit);
    }

    private static void addTo(int[] row, int place, int n) {
        if (place >= 0 && place < row.length) {
            row[place] += n;
        }
    }

    private static void addTo(long[] row, int place, long n) {
        if (place >= 0 && place < row.length) {
            row[place] += n;
        }
    }

    private static Guest newGuest(int kind, int number, int v, int knows) {
        switch (kind) {
            case Guest.LIAR: return new Liar(kind, number, v, knows);
            case Guest.SLY: return new Sly(kind, number, v, knows);
            case Guest.MILD: return new Mild(kind, number, v, knows);
            case Guest.SPITE: return new Spite(kind, number, v, knows);
            case Guest.GREEDY: return new Greedy(kind, number, v, knows);
            case Guest.TOLD: return new Told(kind, number, v, knows);
            default: return new Guest(kind, number, v, knows);
        }
    }

    private static boolean isOfKind(Guest it, int kind) {
        switch (kind) {
            case Guest.LIAR: return it instanceof Liar;
            case Guest.SLY: return it instanceof Sly;
            case Guest.MILD: return it instanceof Mild;
            case Guest.SPITE: return it instanceof Spite;
            case Guest.GREEDY: return it instanceof Greedy;
            case Guest.TOLD: return it instanceof Told;
            default: return true;
        }
    }

    /** Behind how many sayings, last at most, a guest has the hat for the first time. */
    private int firstAt(int guest, int last) {
        int seat = now.hat;
        for (int k = 0; k <= last; k++) {
            if (seat == guest) {
                return k;
            }
            seat = now.goes(seat, now.says(seat, now.hour + k, now.facts));
        }
        return NEVER;
    }

    /** One saying more for the rows that are counted by where the hat is; none may come to guest. */
    private void spreadRowsBut(int guest) {
        Arrays.fill(sumsThen, 0);
        for (int seat = 0; seat < sums.length; seat++) {
            addTo(sumsThen, now.goes(seat, 0), sums[seat]);
            addTo(sumsThen, now.goes(seat, 1), sums[seat]);
        }
        System.arraycopy(sumsThen, 0, sums, 0, sums.length);
        if (guest >= 0 && guest < sums.length) {
            sums[guest] = 0;
        }
    }

    private void walkTruly(int n) {
        int seat = now.hat;
        for (int k = 0; k < n && k < path.length; k++) {
            seat = now.goes(seat, now.says(seat, now.hour + k, now.facts));
            path[k] = seat;
        }
    }

    private boolean goesAlike(int n, int facts) {
        int seat = now.hat;
        for (int k = 0; k < n && k < path.length; k++) {
            seat = now.goes(seat, now.says(seat, now.hour + k, facts));
            if (seat != path[k]) {
                return false;
            }
        }
        return true;
    }

    private int liked(int guest, int n, int what, boolean most) {
        Guest it = now.guestAt(guest);
        if (it == null || what < 0 || what > 1) {
            return LIKED_NONE;
        }
        if (n < 0 || n > SHORT_RUN) {
            return LIKED_BAD;
        }
        int first = firstAt(guest, n - 1);
        if (first == NEVER) {
            return what == 0 ? 0 : NEVER;
        }
        Arrays.fill(sums, 0);
        for (int k = n - 1; k > first; k--) {
            weighHour(it, now.hour + k, most);
        }
        int said = better(guest, most);
        if (what == 1) {
            return said;
        }
        return now.worth(it, now.hour + first, now.facts) + sumAt(now.goes(guest, said));
    }

    /** From what is got from the next hour on, by where the hat is then, to what is got from this hour on. */
    private void weighHour(Guest it, int hour, boolean most) {
        for (int seat = 0; seat < sums.length; seat++) {
            boolean own = seat == it.number;
            int said = own ? better(seat, most) : now.says(seat, hour, now.facts);
            sumsThen[seat] = sumAt(now.goes(seat, said)) + (own ? now.worth(it, hour, now.facts) : 0);
        }
        System.arraycopy(sumsThen, 0, sums, 0, sums.length);
    }

    private int better(int seat, boolean most) {
        int right = sumAt(now.goes(seat, 1));
        int left = sumAt(now.goes(seat, 0));
        return (most ? right >= left : right <= left) ? 1 : 0;
    }

    private int sumAt(int seat) {
        return seat >= 0 && seat < sums.length ? sums[seat] : 0;
    }

    private static boolean isFraction(int n, int part) {
        return n >= 0 && n <= SHORT_RUN && (part == 0 || part == 1);
    }

    private void startChances() {
        Arrays.fill(chances, 0);
        addTo(chances, now.hat, 1);
    }

    /** One saying more; a chance is counted in tenths of those ahead of it, so all stay whole numbers. */
    private void spreadChances(int hour) {
        Arrays.fill(chancesThen, 0);
        for (int seat = 0; seat < chances.length; seat++) {
            Guest it = now.guestAt(seat);
            if (it != null && chances[seat] != 0) {
                int lies = now.lies(it, hour);
                addTo(chancesThen, now.goes(seat, 0), chances[seat] * lies);
                addTo(chancesThen, now.goes(seat, 1), chances[seat] * (TENTHS - lies));
            }
        }
        System.arraycopy(chancesThen, 0, chances, 0, chances.length);
    }

    private long likelyWorth(int hour) {
        long all = 0;
        for (int seat = 0; seat < chances.length; seat++) {
            Guest it = now.guestAt(seat);
            if (it != null && chances[seat] != 0) {
                all += chances[seat] * now.worth(it, hour, now.facts);
            }
        }
        return all;
    }

    private static long lowest(long above, long below, int part) {
        long common = commonDivisor(above, below);
        if (common == 0) {
            return NO;
        }
        return (part == 0 ? above : below) / common;
    }

    private static long commonDivisor(long a, long b) {
        // Euclid's steps for longs stay under 100.
        for (int k = 0; k < 100 && b != 0; k++) {
            long rest = a % b;
            a = b;
            b = rest;
        }
        return a;
    }

    /** How all is now, as far as an image keeps it. */
    static final class Evening {
        private static final int USUAL_LIES = 5, USUAL_WORTH = 1, USUAL_FAR = 1;

        private final Guest[] guests = new Guest[GUESTS];
        // The rows stand here and not in the guests: a guest never changes, so an image shares it.
        private final int[] rows = new int[GUESTS];
        final int[] was = new int[BY_HAND];
        final int[] book = new int[BY_HAND];
        int seated, facts, hat, hour, wasCount, bookCount;
        House house;

        Guest guestAt(int number) {
            return number < 0 || number >= seated || number >= guests.length ? null : guests[number];
        }

        int sits(Guest it) {
            if (seated >= guests.length) {
                return FULL;
            }
            guests[seated] = it;
            rows[seated] = 0;
            seated++;
            return seated - 1;
        }

        int rowAt(int number) {
            return number < 0 || number >= rows.length ? 0 : rows[number];
        }

        void setRow(int number, int row) {
            if (number >= 0 && number < rows.length) {
                rows[number] = row;
            }
        }

        void becomes(Evening other) {
            for (int k = 0; k < guests.length; k++) {
                guests[k] = other.guests[k];
                rows[k] = other.rows[k];
            }
            for (int k = 0; k < BY_HAND; k++) {
                was[k] = other.was[k];
                book[k] = other.book[k];
            }
            seated = other.seated;
            facts = other.facts;
            hat = other.hat;
            hour = other.hour;
            wasCount = other.wasCount;
            bookCount = other.bookCount;
            house = other.house;
        }

        int far() {
            return house == null ? USUAL_FAR : house.far;
        }

        /** The seat that a number means on the round table: numbers go on past either end. */
        private int seat(int number) {
            return seated > 0 ? Math.floorMod(number, seated) : 0;
        }

        int goes(int from, int said) {
            return seat(said == 1 ? from + far() : from - far());
        }

        int kindAt(int number) {
            Guest it = guestAt(seat(number));
            return it == null ? NONE : it.kind;
        }

        int says(int seat, int hour, int facts) {
            Guest it = guestAt(seat);
            return it == null ? 0 : it.says(this, hour, facts);
        }

        int lies(Guest it, int hour) {
            int more = house == null ? 0 : house.sum(House.LIES, it, hour, Integer.bitCount(facts));
            return Math.min(USUAL_LIES + more, TENTHS);
        }

        int worth(Guest it, int hour, int facts) {
            if (house == null || !house.tellsWorth) {
                return USUAL_WORTH;
            }
            return house.sum(House.WORTH, it, hour, Integer.bitCount(facts));
        }
    }

    /** A guest who says what is so; the kinds under it say or do something otherwise. */
    static class Guest {
        static final int GUEST = 0, LIAR = 1, SLY = 2, MILD = 3, SPITE = 4, GREEDY = 5, TOLD = 6;

        final int kind;
        final int number;
        final int v;
        final int knows;
        final int known;

        Guest(int kind, int number, int v, int knows) {
            this.kind = kind;
            this.number = number;
            this.v = v;
            this.knows = knows;
            this.known = Integer.bitCount(knows);
        }

        int says(Evening evening, int hour, int facts) {
            return 1;
        }

        int speaks(int x, Trace trace) {
            trace.begins(10);
            return x + number;
        }

        int passes(int x, Trace trace) {
            trace.begins(11);
            return speaks(x, trace) - v;
        }

        int tells(int x, Trace trace) {
            trace.begins(12);
            return passes(x, trace) * 2;
        }
    }

    static class Liar extends Guest {
        Liar(int kind, int number, int v, int knows) {
            super(kind, number, v, knows);
        }

        int says(Evening evening, int hour, int facts) {
            return 0;
        }

        int passes(int x, Trace trace) {
            trace.begins(20);
            return super.passes(x, trace) ^ 6;
        }
    }

    static class Sly extends Guest {
        Sly(int kind, int number, int v, int knows) {
            super(kind, number, v, knows);
        }

        int says(Evening evening, int hour, int facts) {
            return (knows & facts) >> hour % FACTS & 1;
        }

        int speaks(int x, Trace trace) {
            trace.begins(30);
            return super.speaks(x * 3, trace);
        }
    }

    static class Mild extends Guest {
        Mild(int kind, int number, int v, int knows) {
            super(kind, number, v, knows);
        }

        int says(Evening evening, int hour, int facts) {
            int right = evening.kindAt(number + 1);
            return right == GUEST || right == MILD || right == TOLD ? 1 : 0;
        }

        int tells(int x, Trace trace) {
            trace.begins(40);
            return super.tells(x, trace) + passes(1, trace);
        }
    }

    static final class Spite extends Liar {
        Spite(int kind, int number, int v, int knows) {
            super(kind, number, v, knows);
        }

        int says(Evening evening, int hour, int facts) {
            return evening.kindAt(number - 1) == kind ? 1 : super.says(evening, hour, facts);
        }

        int speaks(int x, Trace trace) {
            trace.begins(50);
            return -super.speaks(x, trace);
        }

        int passes(int x, Trace trace) {
            trace.begins(51);
            return super.passes(x + 1, trace);
        }
    }

    static final class Greedy extends Sly {
        private static final int TEMPTING = 5;

        Greedy(int kind, int number, int v, int knows) {
            super(kind, number, v, knows);
        }

        int says(Evening evening, int hour, int facts) {
            int sly = super.says(evening, hour, facts);
            return evening.worth(this, hour, facts) > TEMPTING ? 1 - sly : sly;
        }

        int tells(int x, Trace trace) {
            trace.begins(60);
            return super.tells(x - number, trace);
        }
    }

    static final class Told extends Mild {
        Told(int kind, int number, int v, int knows) {
            super(kind, number, v, knows);
        }

        int says(Evening evening, int hour, int facts) {
            return evening.rowAt(number) >> hour % FACTS & 1;
        }

        int passes(int x, Trace trace) {
            trace.begins(70);
            return super.passes(x, trace) + super.speaks(2, trace);
        }

        int speaks(int x, Trace trace) {
            trace.begins(71);
            return super.speaks(x, trace) ^ v;
        }
    }

    /** The bodies that ran in the latest act. */
    static final class Trace {
        private static final int KEPT = 20;

        private final int[] bodies = new int[KEPT];
        int ran;

        void clear() {
            ran = 0;
        }

        void begins(int body) {
            if (ran >= 0 && ran < bodies.length) {
                bodies[ran] = body;
            }
            ran++;
        }

        int body(int i) {
            return i < 0 || i >= ran || i >= bodies.length ? NONE : bodies[i];
        }
    }

    /** A row of items of one sort, or nothing. */
    static final class Tape {
        static final int EMPTY = -1, BYTES = 0, SHORTS = 1, INTS = 2, BOOLEANS = 4;

        final long[] items = new long[ITEMS];
        int sort = EMPTY;
        private int size;

        void becomes(int newSort, int newSize) {
            Arrays.fill(items, 0);
            sort = newSort;
            size = newSize;
        }

        boolean isEmpty() {
            return sort == EMPTY;
        }

        boolean has(int i) {
            return i >= 0 && i < size && i < items.length;
        }

        boolean spans(int i, int n) {
            return n >= 0 && i >= 0 && i <= size - n;
        }

        long get(int i) {
            return has(i) ? items[i] : NO;
        }

        void put(int i, long v) {
            if (has(i)) {
                items[i] = cut(v);
            }
        }

        private long cut(long v) {
            switch (sort) {
                case BYTES: return (byte) v;
                case SHORTS: return (short) v;
                case INTS: return (int) v;
                case BOOLEANS: return v != 0 ? 1 : 0;
                default: return v;
            }
        }
    }

    /**
     * A house as read from a text. What an E asks is kept as a row of steps, what is joined ahead of
     * what joins it, so that the many questions of one call need not read the text again.
     */
    static final class House {
        static final int LIES = 0, WORTH = 1;

        private static final int NO_FAULT = -1, NO_SIGN = -1, NO_NUMBER = -1;
        private static final int CLAUSES = 10, DEEPEST = 4;
        private static final int NOT = -1, AND = -2, OR = -3;
        private static final String LETTERS = "gkvhns", RELATIONS = "<=>";
        // A test is one number: its letter, its relation and its own number side by side.
        private static final int A_LETTER = 300, A_RELATION = 100;
        private static final int CLOCK = 12;

        int far = 1;
        boolean tellsWorth;
        private final int[] sorts = new int[CLAUSES];
        private final int[] amounts = new int[CLAUSES];
        private final int[] ends = new int[CLAUSES];
        private int clauses;
        private final int[] steps = new int[SIGNS];
        private int stepCount;
        private final int[] values = new int[6];

        // Where the reading of a text stands.
        private byte[] text;
        private int length;
        private int place;

        /** The FAULT of a text, or NO_FAULT: this is the house of it then. */
        int parse(byte[] signs, int signCount) {
            text = signs;
            length = signCount;
            place = 0;
            far = 1;
            tellsWorth = false;
            clauses = 0;
            stepCount = 0;
            for (int k = 1; k <= CLAUSES; k++) {
                if (!clause()) {
                    return place;
                }
                if (here() == NO_SIGN) {
                    return NO_FAULT;
                }
                if (k == CLAUSES || !takes(';')) {
                    return place;
                }
            }
            return place;
        }

        /** The n of all clauses of a sort whose E holds, together. */
        int sum(int sort, Guest it, int hour, int so) {
            values[0] = it.number;
            values[1] = it.kind;
            values[2] = it.v;
            values[3] = hour % CLOCK;
            values[4] = it.known;
            values[5] = so;
            int sum = 0;
            int from = 0;
            for (int k = 0; k < clauses && k < CLAUSES; k++) {
                if (sorts[k] == sort && holds(from, ends[k])) {
                    sum += amounts[k];
                }
                from = ends[k];
            }
            return sum;
        }

        private boolean holds(int from, int end) {
            // The lowest bit is what was found last; those found ahead of it stand above.
            long found = 0;
            for (int k = from; k >= 0 && k < end && k < steps.length; k++) {
                int step = steps[k];
                if (step == NOT) {
                    found ^= 1;
                } else if (step == AND) {
                    found = found >> 1 & (found | ~1L);
                } else if (step == OR) {
                    found = found >> 1 | found & 1;
                } else {
                    int letter = step / A_LETTER;
                    int value = letter >= 0 && letter < values.length ? values[letter] : 0;
                    int relation = step % A_LETTER / A_RELATION;
                    int n = step % A_RELATION;
                    boolean is = relation == 0 ? value < n : relation == 1 ? value == n : value > n;
                    found = found << 1 | (is ? 1 : 0);
                }
            }
            return (found & 1) == 1;
        }

        // Each of these reads as far as some text goes on so: where one fails, place is the fault.

        private boolean clause() {
            int first = here();
            String word = first == 'l' ? "lies" : first == 'w' ? "worth" : "far";
            if (!takesWord(word) || !takes(' ')) {
                return false;
            }
            int n = number();
            if (n == NO_NUMBER) {
                return false;
            }
            if (first == 'f') {
                far = n;
                return true;
            }
            if (!takes(' ') || !either(0)) {
                return false;
            }
            keep(first == 'w' ? WORTH : LIES, n);
            return true;
        }

        /** E, within as many ( and ! as deep tells. */
        private boolean either(int deep) {
            if (!both(deep)) {
                return false;
            }
            for (int k = 0; k < SIGNS && takes('|'); k++) {
                if (!both(deep)) {
                    return false;
                }
                step(OR);
            }
            return true;
        }

        /** T. */
        private boolean both(int deep) {
            if (!factor(deep)) {
                return false;
            }
            for (int k = 0; k < SIGNS && takes('&'); k++) {
                if (!factor(deep)) {
                    return false;
                }
                step(AND);
            }
            return true;
        }

        /** F. */
        private boolean factor(int deep) {
            int sign = here();
            if (sign == '(' || sign == '!') {
                if (deep >= DEEPEST) {
                    return false;
                }
                place++;
                if (sign == '(') {
                    return either(deep + 1) && takes(')');
                }
                if (!factor(deep + 1)) {
                    return false;
                }
                step(NOT);
                return true;
            }
            int letter = takesOneOf(LETTERS);
            if (letter < 0) {
                return false;
            }
            int relation = takesOneOf(RELATIONS);
            if (relation < 0) {
                return false;
            }
            int n = number();
            if (n == NO_NUMBER) {
                return false;
            }
            step(letter * A_LETTER + relation * A_RELATION + n);
            return true;
        }

        /** 1 or 2 digits. */
        private int number() {
            int first = here();
            if (first < '0' || first > '9') {
                return NO_NUMBER;
            }
            place++;
            int second = here();
            if (second < '0' || second > '9') {
                return first - '0';
            }
            place++;
            return (first - '0') * 10 + second - '0';
        }

        private int here() {
            return text == null || place < 0 || place >= length || place >= text.length ? NO_SIGN : text[place];
        }

        private boolean takes(int sign) {
            if (here() != sign) {
                return false;
            }
            place++;
            return true;
        }

        private boolean takesWord(String word) {
            for (int k = 0; k < word.length(); k++) {
                if (!takes(word.charAt(k))) {
                    return false;
                }
            }
            return true;
        }

        /** Which of these signs is here, or -1. */
        private int takesOneOf(String signs) {
            int sign = here();
            for (int k = 0; k < signs.length(); k++) {
                if (signs.charAt(k) == sign) {
                    place++;
                    return k;
                }
            }
            return -1;
        }

        private void step(int step) {
            if (stepCount < steps.length) {
                steps[stepCount] = step;
                stepCount++;
            }
        }

        private void keep(int sort, int n) {
            if (clauses < CLAUSES) {
                sorts[clauses] = sort;
                amounts[clauses] = n;
                ends[clauses] = stepCount;
                clauses++;
                tellsWorth = tellsWorth || sort == WORTH;
            }
        }
    }
}
