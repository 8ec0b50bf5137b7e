import java.math.BigInteger;
import java.util.ArrayList;
import java.util.List;
import java.util.regex.Matcher;
import java.util.regex.Pattern;

/**
 * The document once more, in the slowest and plainest form: whatever may be said is tried way by way,
 * a text is a house if a regular expression takes it. ModelTest holds the class against it.
 */
final class Model {
    private static final int[] ABOVE = {-1, 0, 0, 0, 1, 2, 3};
    private static final Pattern HOUSE = Pattern.compile(housePattern());

    private static final class Sitting implements Cloneable {
        int kind, v, knows;
        int[] row = new int[8];

        Sitting copy() {
            Sitting other = new Sitting();
            other.kind = kind;
            other.v = v;
            other.knows = knows;
            other.row = row.clone();
            return other;
        }
    }

    private static final class State {
        List<Sitting> guests = new ArrayList<>();
        boolean[] facts = new boolean[8];
        int hat, hour;
        List<Integer> was = new ArrayList<>();
        List<Integer> book = new ArrayList<>();
        String house;

        State copy() {
            State other = new State();
            for (Sitting g : guests) {
                other.guests.add(g.copy());
            }
            other.facts = facts.clone();
            other.hat = hat;
            other.hour = hour;
            other.was.addAll(was);
            other.book.addAll(book);
            other.house = house;
            return other;
        }
    }

    private State s = new State();
    private State image;
    private int houses;
    private String text = "";
    private final Object[] tapes = new Object[6];
    private List<Integer> trace = new ArrayList<>();

    // ---- the grammar

    private static String housePattern() {
        String test = "[gkvhns][<=>][0-9]{1,2}";
        String f = test;
        for (int depth = 0; depth < 4; depth++) {
            f = "(?:" + test + "|!" + f + "|\\(" + expression(f) + "\\))";
        }
        String clause = "(?:(?:lies|worth) [0-9]{1,2} " + expression(f) + "|far [0-9]{1,2})";
        return clause + "(?:;" + clause + "){0,9}";
    }

    private static String expression(String f) {
        String t = f + "(?:&" + f + ")*";
        return t + "(?:\\|" + t + ")*";
    }

    static boolean isHouse(String text) {
        return HOUSE.matcher(text).matches();
    }

    /** Whether a house begins so. */
    private static boolean begins(String text) {
        Matcher m = HOUSE.matcher(text);
        return m.matches() || m.hitEnd();
    }

    /** -1 if there is none. */
    static int faultOf(String text) {
        for (int k = 1; k <= text.length(); k++) {
            if (!begins(text.substring(0, k))) {
                return k - 1;
            }
        }
        return isHouse(text) ? -1 : text.length();
    }

    // ---- what clauses say

    private static List<String> parts(String e, char between) {
        List<String> parts = new ArrayList<>();
        int depth = 0;
        int from = 0;
        for (int k = 0; k < e.length(); k++) {
            char c = e.charAt(k);
            depth += c == '(' ? 1 : c == ')' ? -1 : 0;
            if (c == between && depth == 0) {
                parts.add(e.substring(from, k));
                from = k + 1;
            }
        }
        parts.add(e.substring(from));
        return parts;
    }

    private boolean so(String e, int g, int hour, boolean[] facts) {
        List<String> any = parts(e, '|');
        if (any.size() > 1) {
            return any.stream().anyMatch(t -> so(t, g, hour, facts));
        }
        List<String> all = parts(e, '&');
        if (all.size() > 1) {
            return all.stream().allMatch(f -> so(f, g, hour, facts));
        }
        if (e.charAt(0) == '!') {
            return !so(e.substring(1), g, hour, facts);
        }
        if (e.charAt(0) == '(') {
            return so(e.substring(1, e.length() - 1), g, hour, facts);
        }
        Sitting it = s.guests.get(g);
        int value;
        switch (e.charAt(0)) {
            case 'g': value = g; break;
            case 'k': value = it.kind; break;
            case 'v': value = it.v; break;
            case 'h': value = hour % 12; break;
            case 'n': value = Integer.bitCount(it.knows); break;
            default: value = Integer.bitCount(bits(facts)); break;
        }
        int n = Integer.parseInt(e.substring(2));
        return e.charAt(1) == '<' ? value < n : e.charAt(1) == '=' ? value == n : value > n;
    }

    private static int bits(boolean[] facts) {
        int bits = 0;
        for (int k = 0; k < 8; k++) {
            bits += facts[k] ? 1 << k : 0;
        }
        return bits;
    }

    private String[] clauses() {
        return s.house == null ? new String[0] : s.house.split(";");
    }

    private int together(String word, int g, int hour, boolean[] facts) {
        int sum = 0;
        for (String clause : clauses()) {
            String[] words = clause.split(" ");
            if (words[0].equals(word) && so(words[2], g, hour, facts)) {
                sum += Integer.parseInt(words[1]);
            }
        }
        return sum;
    }

    private int liesOf(int g, int hour) {
        return Math.min(10, 5 + together("lies", g, hour, s.facts));
    }

    private int worthOf(int g, int hour, boolean[] facts) {
        for (String clause : clauses()) {
            if (clause.startsWith("worth")) {
                return together("worth", g, hour, facts);
            }
        }
        return 1;
    }

    private int far() {
        int far = 1;
        for (String clause : clauses()) {
            if (clause.startsWith("far")) {
                far = Integer.parseInt(clause.split(" ")[1]);
            }
        }
        return far;
    }

    // ---- what is said

    private int seats() {
        return s.guests.size();
    }

    private boolean sits(int g) {
        return g >= 0 && g < seats();
    }

    private int saysOf(int g, int hour, boolean[] facts) {
        Sitting it = s.guests.get(g);
        int right = s.guests.get((g + 1) % seats()).kind;
        int left = s.guests.get((g + seats() - 1) % seats()).kind;
        boolean sly = (it.knows >> hour % 8 & 1) == 1 && facts[hour % 8];
        switch (it.kind) {
            case 0: return 1;
            case 1: return 0;
            case 2: return sly ? 1 : 0;
            case 3: return right % 3 == 0 ? 1 : 0;
            case 4: return left == 4 ? 1 : 0;
            case 5: return sly != worthOf(g, hour, facts) > 5 ? 1 : 0;
            default: return it.row[hour % 8];
        }
    }

    private int goesFrom(int g, int said) {
        int to = g;
        for (int k = 0; k < far(); k++) {
            to = said == 1 ? to + 1 : to - 1;
            to = to == seats() ? 0 : to < 0 ? seats() - 1 : to;
        }
        return to;
    }

    /** Who has the hat now and behind each of n sayings. */
    private int[] walk(int from, int n, boolean[] facts) {
        int[] walk = new int[n + 1];
        walk[0] = from;
        for (int k = 0; k < n; k++) {
            walk[k + 1] = goesFrom(walk[k], saysOf(walk[k], s.hour + k, facts));
        }
        return walk;
    }

    // ---- the calls

    int guest(int kind, int v, int knows) {
        if (kind < 0 || kind > 6) {
            return -1;
        }
        if (v < 0 || v > 9 || knows < 0 || knows > 255) {
            return -2;
        }
        if (seats() == 7) {
            return -4;
        }
        Sitting it = new Sitting();
        it.kind = kind;
        it.v = v;
        it.knows = knows;
        s.guests.add(it);
        return seats() - 1;
    }

    int of(int guest, int what) {
        if (!sits(guest) || what < 0 || what > 5) {
            return -1;
        }
        Sitting it = s.guests.get(guest);
        return new int[] {it.kind, it.v, it.knows, liesOf(guest, s.hour), worthOf(guest, s.hour, s.facts),
            saysOf(guest, s.hour, s.facts)}[what];
    }

    int fact(int fact, boolean is) {
        if (fact < 0 || fact > 7) {
            return -1;
        }
        boolean was = s.facts[fact];
        s.facts[fact] = is;
        return was ? 1 : 0;
    }

    int hat(int guest) {
        if (!sits(guest)) {
            return -1;
        }
        int was = s.hat;
        s.hat = guest;
        return was;
    }

    int row(int guest, int part, int n) {
        if (!sits(guest) || part < 0 || part > 7) {
            return -1;
        }
        if (n < 0 || n > 1) {
            return -2;
        }
        if (s.guests.get(guest).kind != 6) {
            return -3;
        }
        int was = s.guests.get(guest).row[part];
        s.guests.get(guest).row[part] = n;
        return was;
    }

    int feed(int sign) {
        if (sign < 0 || sign > 127) {
            return -2;
        }
        if (text.length() == 100) {
            return -4;
        }
        text += (char) sign;
        return text.length();
    }

    int house() {
        if (houses == 6) {
            return -4;
        }
        String read = text;
        text = "";
        int fault = faultOf(read);
        if (fault >= 0) {
            return -10 - fault;
        }
        s.house = read;
        return houses++;
    }

    int told(int what) {
        switch (what) {
            case 0: return seats() == 0 ? -5 : s.hat;
            case 1: return s.hour;
            case 2: return far();
            case 3: return bits(s.facts);
            default: return -1;
        }
    }

    int saying() {
        if (seats() == 0 || s.hour == 9999) {
            return -3;
        }
        int said = saysOf(s.hat, s.hour, s.facts);
        s.hat = goesFrom(s.hat, said);
        s.hour++;
        return said;
    }

    int at(int n, int what) {
        if (what != 0 && what != 1 && (what < 10 || !sits(what - 10))) {
            return -1;
        }
        if (n < 0 || n > 60) {
            return -2;
        }
        if (seats() == 0) {
            return -3;
        }
        int[] walk = walk(s.hat, n, s.facts);
        if (what == 0) {
            return walk[n];
        }
        int count = 0;
        for (int k = 0; k < n; k++) {
            boolean counts = what == 1 ? saysOf(walk[k], s.hour + k, s.facts) == 0 : walk[k] == what - 10;
            count += counts ? 1 : 0;
        }
        return count;
    }

    int comes(int guest) {
        if (!sits(guest)) {
            return -1;
        }
        int[] walk = walk(s.hat, 60, s.facts);
        for (int k = 0; k <= 60; k++) {
            if (walk[k] == guest) {
                return k;
            }
        }
        return -5;
    }

    int soonest(int from, int to) {
        if (!sits(from) || !sits(to)) {
            return -1;
        }
        for (int n = 0; n < 8; n++) {
            for (int said = 0; said < 1 << n; said++) {
                int at = from;
                for (int k = 0; k < n; k++) {
                    at = goesFrom(at, said >> k & 1);
                }
                if (at == to) {
                    return n;
                }
            }
        }
        return -5;
    }

    int keeps(int guest, int n) {
        if (!sits(guest)) {
            return -1;
        }
        if (n < 0 || n > 12) {
            return -2;
        }
        int count = 0;
        for (int said = 0; said < 1 << n; said++) {
            int at = s.hat;
            boolean kept = at != guest;
            for (int k = 0; k < n; k++) {
                at = goesFrom(at, said >> k & 1);
                kept &= at != guest;
            }
            count += kept ? 1 : 0;
        }
        return count;
    }

    int was(int guest) {
        if (guest == -1) {
            s.was.clear();
            return 0;
        }
        if (!sits(guest)) {
            return -1;
        }
        if (s.was.size() == 12) {
            return -4;
        }
        s.was.add(guest);
        return s.was.size();
    }

    int lied(int what) {
        if (what < 0 || what > 3) {
            return -1;
        }
        if (s.was.isEmpty()) {
            return 0;
        }
        int n = s.was.size() - 1;
        int least = 99;
        int most = -1;
        int must = -1;
        int may = 0;
        for (int zeros = 0; zeros < 1 << n; zeros++) {
            int at = s.hat;
            boolean goes = at == s.was.get(0);
            for (int k = 0; k < n; k++) {
                at = goesFrom(at, 1 - (zeros >> k & 1));
                goes &= at == s.was.get(k + 1);
            }
            if (goes) {
                least = Math.min(least, Integer.bitCount(zeros));
                most = Math.max(most, Integer.bitCount(zeros));
                must &= zeros;
                may |= zeros;
            }
        }
        return most < 0 ? -5 : new int[] {least, most, must, may}[what];
    }

    int stranger(int n, int what) {
        if (what < 0 || what > 2) {
            return -1;
        }
        if (n < 0 || n > 12) {
            return -2;
        }
        if (seats() == 0) {
            return -3;
        }
        int[] truly = walk(s.hat, n, s.facts);
        List<boolean[]> ways = new ArrayList<>();
        for (int way = 0; way < 256; way++) {
            boolean[] facts = new boolean[8];
            for (int k = 0; k < 8; k++) {
                facts[k] = (way >> k & 1) == 1;
            }
            if (java.util.Arrays.equals(walk(s.hat, n, facts), truly)) {
                ways.add(facts);
            }
        }
        int alike = 0;
        for (int k = 0; k < 8; k++) {
            int fact = k;
            boolean all = ways.stream().allMatch(facts -> facts[fact] == s.facts[fact]);
            alike |= all ? 1 << k : 0;
        }
        return new int[] {ways.size(), alike, alike & bits(s.facts)}[what];
    }

    int wants(int guest, int n, int what) {
        return liked(guest, n, what, 1);
    }

    int rid(int guest, int n, int what) {
        return liked(guest, n, what, -1);
    }

    private int liked(int guest, int n, int what, int sign) {
        if (!sits(guest) || what < 0 || what > 1) {
            return -1001;
        }
        if (n < 0 || n > 12) {
            return -1002;
        }
        int[] best = {Integer.MIN_VALUE, Integer.MIN_VALUE};
        boolean has = false;
        // Bit k is what the guest says when it has the hat for the k-th time.
        for (int said = 0; said < 1 << n; said++) {
            int at = s.hat;
            int sum = 0;
            int times = 0;
            for (int k = 0; k < n; k++) {
                if (at == guest) {
                    sum += worthOf(guest, s.hour + k, s.facts);
                    at = goesFrom(at, said >> times & 1);
                    times++;
                } else {
                    at = goesFrom(at, saysOf(at, s.hour + k, s.facts));
                }
            }
            has |= times > 0;
            best[said & 1] = Math.max(best[said & 1], sign * sum);
        }
        if (!has) {
            return what == 0 ? 0 : -5;
        }
        return what == 0 ? sign * Math.max(best[0], best[1]) : best[1] >= best[0] ? 1 : 0;
    }

    int two(int guest) {
        if (!sits(guest)) {
            return -1;
        }
        int[] first = walk(s.hat, 60, s.facts);
        int[] second = walk(guest, 60, s.facts);
        for (int k = 0; k <= 60; k++) {
            if (first[k] == second[k]) {
                return k;
            }
        }
        return -5;
    }

    /** Of all ways in which n sayings may go, the tenths of each; at its end, or of worth on the way. */
    private BigInteger ways(int at, int k, int n, int guest, BigInteger tenths, BigInteger worth) {
        if (k == n) {
            return guest < 0 ? worth.multiply(tenths) : at == guest ? tenths : BigInteger.ZERO;
        }
        BigInteger more = worth.add(BigInteger.valueOf(worthOf(at, s.hour + k, s.facts)));
        int lies = liesOf(at, s.hour + k);
        BigInteger sum = BigInteger.ZERO;
        if (lies > 0) {
            sum = sum.add(ways(goesFrom(at, 0), k + 1, n, guest, tenths.multiply(BigInteger.valueOf(lies)), more));
        }
        if (lies < 10) {
            sum = sum.add(ways(goesFrom(at, 1), k + 1, n, guest, tenths.multiply(BigInteger.valueOf(10 - lies)), more));
        }
        return sum;
    }

    private long fraction(int n, int guest, int part) {
        BigInteger above = ways(s.hat, 0, n, guest, BigInteger.ONE, BigInteger.ZERO);
        BigInteger below = BigInteger.TEN.pow(n);
        BigInteger common = above.gcd(below);
        return (part == 0 ? above : below).divide(common).longValueExact();
    }

    long odds(int guest, int n, int part) {
        return !sits(guest) || n < 0 || n > 12 || part < 0 || part > 1 ? Long.MIN_VALUE : fraction(n, guest, part);
    }

    long mean(int n, int part) {
        return seats() == 0 || n < 0 || n > 12 || part < 0 || part > 1 ? Long.MIN_VALUE : fraction(n, -1, part);
    }

    int book(int said) {
        if (said == -1) {
            s.book.clear();
            return 0;
        }
        if (said < 0 || said > 1) {
            return -2;
        }
        if (s.book.size() == 12) {
            return -4;
        }
        s.book.add(said);
        return s.book.size();
    }

    int looked() {
        if (seats() == 0) {
            return -3;
        }
        int[] walk = walk(s.hat, 12, s.facts);
        for (int k = 0; k < s.book.size(); k++) {
            if (s.book.get(k) != saysOf(walk[k], s.hour + k, s.facts)) {
                return k;
            }
        }
        return -5;
    }

    int judge(int tape, int i) {
        if (tape < 0 || tape > 5) {
            return -1;
        }
        if (tapes[tape] == null) {
            return 100;
        }
        if (!(tapes[tape] instanceof boolean[])) {
            return -12;
        }
        boolean[] row = (boolean[]) tapes[tape];
        if (i < 0 || i >= row.length) {
            return 100;
        }
        for (int k = 0; k < 8; k++) {
            if (i + k == row.length) {
                return 100 + k;
            }
            if (row[i + k] != s.facts[k]) {
                return k;
            }
        }
        return -5;
    }

    int image() {
        image = s.copy();
        return seats();
    }

    int undo() {
        if (image == null) {
            return -3;
        }
        s = image.copy();
        return seats();
    }

    // ---- acts, told as the document tells them: by the kind that a body stands in

    private int run(int act, int kind, int g, int x) {
        Sitting it = s.guests.get(g);
        int body = act * 10 + kind;
        switch (body) {
            case 0: trace.add(10); return x + g;
            case 10: trace.add(11); return run(0, it.kind, g, x) - it.v;
            case 20: trace.add(12); return run(1, it.kind, g, x) * 2;
            case 11: trace.add(20); return run(1, 0, g, x) ^ 6;
            case 2: trace.add(30); return run(0, 0, g, x * 3);
            case 23: {
                trace.add(40);
                int first = run(2, 0, g, x);
                return first + run(1, it.kind, g, 1);
            }
            case 4: trace.add(50); return -run(0, 1, g, x);
            case 14: trace.add(51); return run(1, 1, g, x + 1);
            case 25: trace.add(60); return run(2, 2, g, x - g);
            case 16: {
                trace.add(70);
                int first = run(1, 3, g, x);
                return first + run(0, 3, g, 2);
            }
            case 6: trace.add(71); return run(0, 3, g, x) ^ it.v;
            default: return run(act, ABOVE[kind], g, x);
        }
    }

    int act(int guest, int act, int x) {
        trace.clear();
        return !sits(guest) || act < 0 || act > 2 ? 0 : run(act, s.guests.get(guest).kind, guest, x);
    }

    int trace(int i) {
        return i < 0 || i >= 20 || i >= trace.size() ? -1 : trace.get(i);
    }

    int taken(int guest, int k) {
        if (k < 0 || k > 6) {
            return -2;
        }
        if (!sits(guest)) {
            return -11;
        }
        for (int kind = s.guests.get(guest).kind; kind >= 0; kind = ABOVE[kind]) {
            if (kind == k) {
                return s.guests.get(guest).kind;
            }
        }
        return -12;
    }

    int count(int what) {
        int[] counts = {seats(), houses, s.was.size(), s.book.size(), text.length(), trace.size()};
        return what < 0 || what > 5 ? -2 : counts[what];
    }

    // ---- tapes, as rows of their own sorts

    int tape(int tape, int sort, int n) {
        if (tape < 0 || tape > 5) {
            return -1;
        }
        if (sort < -1 || sort > 4 || sort >= 0 && n > 60) {
            return -2;
        }
        if (sort >= 0 && n < 0) {
            return -14;
        }
        switch (sort) {
            case 0: tapes[tape] = new byte[n]; break;
            case 1: tapes[tape] = new short[n]; break;
            case 2: tapes[tape] = new int[n]; break;
            case 3: tapes[tape] = new long[n]; break;
            case 4: tapes[tape] = new boolean[n]; break;
            default: tapes[tape] = null; break;
        }
        return 1;
    }

    private static int lengthOf(Object row) {
        return java.lang.reflect.Array.getLength(row);
    }

    int item(int tape, int i, long v) {
        if (tape < 0 || tape > 5) {
            return -1;
        }
        Object row = tapes[tape];
        if (row == null) {
            return -11;
        }
        if (i < 0 || i >= lengthOf(row)) {
            return -13;
        }
        if (row instanceof byte[]) {
            ((byte[]) row)[i] = (byte) v;
        } else if (row instanceof short[]) {
            ((short[]) row)[i] = (short) v;
        } else if (row instanceof int[]) {
            ((int[]) row)[i] = (int) v;
        } else if (row instanceof long[]) {
            ((long[]) row)[i] = v;
        } else {
            ((boolean[]) row)[i] = v != 0;
        }
        return 1;
    }

    long read(int tape, int i) {
        if (tape < 0 || tape > 5 || tapes[tape] == null || i < 0 || i >= lengthOf(tapes[tape])) {
            return Long.MIN_VALUE;
        }
        Object row = tapes[tape];
        if (row instanceof boolean[]) {
            return ((boolean[]) row)[i] ? 1 : 0;
        }
        return java.lang.reflect.Array.getLong(row, i);
    }

    int shift(int tape, int i, int other, int j, int n) {
        if (tape < 0 || tape > 5 || other < 0 || other > 5) {
            return -1;
        }
        Object from = tapes[tape];
        Object to = tapes[other];
        if (from == null || to == null) {
            return -11;
        }
        if (from.getClass() != to.getClass()) {
            return -12;
        }
        if (n < 0 || i < 0 || j < 0 || (long) i + n > lengthOf(from) || (long) j + n > lengthOf(to)) {
            return -13;
        }
        System.arraycopy(from, i, to, j, n);
        return n;
    }
}
