/**
 * The class against the model: many runs of calls on new objects, the same ones each time, with every
 * answer of the two held side by side. All promises.
 */
public final class ModelTest {
    private static final int RUNS = 400;
    private static final int CALLS = 512;
    private static final int MOST_SHOWN = 20;

    private long seed;
    private HatGoes x;
    private Model m;
    private StringBuilder calls;
    private long looked;
    private long wrong;

    public static void main(String[] args) {
        ModelTest test = new ModelTest();
        int runs = args.length > 0 ? Integer.parseInt(args[0]) : RUNS;
        int from = args.length > 1 ? Integer.parseInt(args[1]) : 0;
        for (int run = from; run < from + runs; run++) {
            test.run(run);
        }
        System.out.println("ModelTest: " + test.looked + " looked at, " + test.wrong + " wrong");
        if (test.wrong > 0) {
            System.exit(1);
        }
    }

    private void run(int run) {
        seed = 0x9E3779B97F4A7C15L * (run + 1);
        x = new HatGoes();
        m = new Model();
        calls = new StringBuilder();
        int used = 0;
        boolean early = pick(8) == 0;
        if (!early) {
            used += begin();
        }
        while (used < CALLS) {
            used += pick(9) == 0 ? text(CALLS - used) : call();
        }
    }

    /** A number from 0 to n less 1, from a row of numbers that is the same each time. */
    private int pick(int n) {
        seed ^= seed << 13;
        seed ^= seed >>> 7;
        seed ^= seed << 17;
        return (int) Long.remainderUnsigned(seed * 0x2545F4914F6CDD1DL >>> 8, n);
    }

    /** Mostly from low to high, now and then a little or far beyond. */
    private int near(int low, int high) {
        int how = pick(60);
        if (how == 0) {
            return low - 1;
        }
        if (how == 1) {
            return high + 1;
        }
        if (how == 2) {
            int[] far = {Integer.MIN_VALUE, Integer.MAX_VALUE, -2, 100, 1 << 16, -1000, 61, 13, 10};
            return far[pick(far.length)];
        }
        return low + pick(high - low + 1);
    }

    private void same(String call, long got, long want) {
        looked++;
        calls.append(call).append(" = ").append(want).append('\n');
        if (got != want) {
            wrong++;
            if (wrong <= MOST_SHOWN) {
                System.out.println("ModelTest: " + call + " answered " + got + ", due is " + want);
                if (wrong == 1) {
                    System.out.println("the run so far:\n" + calls);
                }
            }
        }
    }

    private int begin() {
        int used = 0;
        int guests = 1 + pick(7);
        for (int k = 0; k < guests; k++) {
            guest();
            used++;
        }
        for (int fact = 0; fact < 8; fact++) {
            fact(fact);
            used++;
        }
        for (int k = 0; k < guests; k++) {
            for (int part = 0; part < 8 && m.taken(k, 6) == 6; part++) {
                row(k, part, pick(2));
                used++;
            }
        }
        return used;
    }

    private void guest() {
        int kind = near(0, 6);
        int v = near(0, 9);
        int knows = near(0, 255);
        same("guest(" + kind + ", " + v + ", " + knows + ")", x.guest(kind, v, knows), m.guest(kind, v, knows));
    }

    private void fact(int fact) {
        boolean is = pick(2) == 0;
        same("fact(" + fact + ", " + is + ")", x.fact(fact, is), m.fact(fact, is));
    }

    private void row(int guest, int part, int n) {
        same("row(" + guest + ", " + part + ", " + n + ")", x.row(guest, part, n), m.row(guest, part, n));
    }

    // ---- texts

    private int text(int room) {
        String text = pick(40) == 0 ? "(!".repeat(pick(50)) : clauses();
        if (text.length() > 100) {
            text = text.substring(0, 100);
        }
        if (pick(3) == 0) {
            text = broken(text);
        }
        int used = 0;
        for (int k = 0; k < text.length() && used < room; k++) {
            int sign = text.charAt(k);
            same("feed(" + sign + ")", x.feed(sign), m.feed(sign));
            used++;
        }
        if (used < room) {
            same("house()", x.house(), m.house());
            used++;
        }
        return used;
    }

    private String clauses() {
        StringBuilder text = new StringBuilder();
        int clauses = pick(12) == 0 ? 9 + pick(4) : 1 + pick(4);
        for (int k = 0; k < clauses; k++) {
            text.append(k > 0 ? ";" : "");
            int how = pick(clauses > 8 ? 2 : 6);
            if (how <= 0 || clauses > 8) {
                text.append("far ").append(pick(9) == 0 ? pick(100) : pick(8));
            } else {
                text.append(how < 3 ? "lies " : "worth ").append(pick(4) == 0 ? pick(100) : pick(10)).append(' ');
                text.append(either(pick(12) == 0 ? 0 : 2));
            }
        }
        return text.toString();
    }

    private String either(int deep) {
        StringBuilder e = new StringBuilder(both(deep));
        while (pick(4) == 0) {
            e.append('|').append(both(deep));
        }
        return e.toString();
    }

    private String both(int deep) {
        StringBuilder t = new StringBuilder(factor(deep));
        while (pick(4) == 0) {
            t.append('&').append(factor(deep));
        }
        return t.toString();
    }

    private String factor(int deep) {
        int how = pick(6);
        if (deep < 5 && how == 0) {
            return "!" + factor(deep + 1);
        }
        if (deep < 5 && how == 1) {
            return "(" + either(deep + 1) + ")";
        }
        char letter = "gkvhns".charAt(pick(6));
        char relation = "<=>".charAt(pick(3));
        return "" + letter + relation + (pick(20) == 0 ? pick(100) : pick(letter == 'h' ? 12 : 8));
    }

    private String broken(String text) {
        StringBuilder b = new StringBuilder(text);
        String signs = "gkvhnslworthfaie <=>!&|();019\0\177";
        int at = pick(b.length() + 1);
        switch (pick(4)) {
            case 0: b.setLength(at); break;
            case 1: b.insert(at, signs.charAt(pick(signs.length()))); break;
            case 2: if (at < b.length()) { b.deleteCharAt(at); } break;
            default: if (at < b.length()) { b.setCharAt(at, signs.charAt(pick(signs.length()))); } break;
        }
        return b.length() > 100 ? b.substring(0, 100) : b.toString();
    }

    // ---- one call

    private int call() {
        switch (pick(7)) {
            case 0: return told();
            case 1: return asked();
            case 2: return askedMore();
            case 3: return likely();
            case 4: return kept();
            default: return tapes();
        }
    }

    private int told() {
        switch (pick(9)) {
            case 0: guest(); break;
            case 1: fact(near(0, 7)); break;
            case 2: row(near(0, 6), near(0, 7), near(0, 1)); break;
            case 3: {
                int g = near(0, 6);
                same("hat(" + g + ")", x.hat(g), m.hat(g));
                break;
            }
            case 4: {
                int what = near(0, 3);
                same("told(" + what + ")", x.told(what), m.told(what));
                break;
            }
            case 5: {
                int sign = near(0, 127);
                same("feed(" + sign + ")", x.feed(sign), m.feed(sign));
                break;
            }
            default: same("saying()", x.saying(), m.saying()); break;
        }
        return 1;
    }

    private int asked() {
        int g = near(0, 6);
        switch (pick(6)) {
            case 0: {
                int what = near(0, 5);
                same("of(" + g + ", " + what + ")", x.of(g, what), m.of(g, what));
                break;
            }
            case 1: {
                int n = near(0, 60);
                int what = pick(3) == 0 ? near(0, 1) : 10 + near(0, 6);
                same("at(" + n + ", " + what + ")", x.at(n, what), m.at(n, what));
                break;
            }
            case 2: same("comes(" + g + ")", x.comes(g), m.comes(g)); break;
            case 3: {
                int to = near(0, 6);
                same("soonest(" + g + ", " + to + ")", x.soonest(g, to), m.soonest(g, to));
                break;
            }
            case 4: {
                int n = near(0, 12);
                same("keeps(" + g + ", " + n + ")", x.keeps(g, n), m.keeps(g, n));
                break;
            }
            default: same("two(" + g + ")", x.two(g), m.two(g)); break;
        }
        return 1;
    }

    private int askedMore() {
        switch (pick(3)) {
            case 0: return evening();
            case 1: {
                int what = near(0, 3);
                same("lied(" + what + ")", x.lied(what), m.lied(what));
                return 1;
            }
            default: {
                int n = near(0, 12);
                int what = near(0, 2);
                same("stranger(" + n + ", " + what + ")", x.stranger(n, what), m.stranger(n, what));
                return 1;
            }
        }
    }

    /** Was or a book, mostly as it may go, so that there is something to be found. */
    private int evening() {
        int n = 1 + pick(5);
        int used = 0;
        boolean was = pick(2) == 0;
        if (pick(2) == 0) {
            same(was ? "was(-1)" : "book(-1)", was ? x.was(-1) : x.book(-1), was ? m.was(-1) : m.book(-1));
            used++;
        }
        int far = m.told(2);
        int seats = Math.max(1, m.count(0));
        int seat = Math.max(0, m.told(0));
        for (int k = 0; k < n; k++) {
            if (was) {
                int g = pick(9) == 0 ? near(0, 6) : seat;
                same("was(" + g + ")", x.was(g), m.was(g));
                seat = Math.floorMod(pick(2) == 0 ? seat + far : seat - far, seats);
            } else {
                int g = m.at(k, 0);
                int said = pick(9) == 0 || g < 0 ? near(0, 1) : m.at(k + 1, 1) > m.at(k, 1) ? 0 : 1;
                same("book(" + said + ")", x.book(said), m.book(said));
            }
            used++;
        }
        if (was) {
            for (int what = 0; what < 4; what++) {
                same("lied(" + what + ")", x.lied(what), m.lied(what));
            }
            return used + 4;
        }
        same("looked()", x.looked(), m.looked());
        return used + 1;
    }

    private int likely() {
        int g = near(0, 6);
        int n = near(0, 12);
        int what = near(0, 1);
        switch (pick(5)) {
            case 0:
            case 1: same("wants(" + g + ", " + n + ", " + what + ")", x.wants(g, n, what), m.wants(g, n, what)); break;
            case 2:
            case 3: same("rid(" + g + ", " + n + ", " + what + ")", x.rid(g, n, what), m.rid(g, n, what)); break;
            default: {
                // The model tries all ways: long ones seldom.
                int k = n > 7 && n < 13 && pick(6) > 0 ? n - 6 : n;
                if (pick(2) == 0) {
                    same("odds(" + g + ", " + k + ", " + what + ")", x.odds(g, k, what), m.odds(g, k, what));
                } else {
                    same("mean(" + k + ", " + what + ")", x.mean(k, what), m.mean(k, what));
                }
                break;
            }
        }
        return 1;
    }

    private int kept() {
        int g = near(0, 6);
        switch (pick(8)) {
            case 0: same("image()", x.image(), m.image()); break;
            case 1: same("undo()", x.undo(), m.undo()); break;
            case 2: {
                int k = near(0, 6);
                same("taken(" + g + ", " + k + ")", x.taken(g, k), m.taken(g, k));
                break;
            }
            case 3: {
                int what = near(0, 5);
                same("count(" + what + ")", x.count(what), m.count(what));
                break;
            }
            case 4: same("looked()", x.looked(), m.looked()); break;
            default: return act(g);
        }
        return 1;
    }

    private int act(int g) {
        int act = near(0, 2);
        int arg = pick(3) == 0 ? near(-9, 9) : pick(1 << 30) * 4 + pick(4);
        same("act(" + g + ", " + act + ", " + arg + ")", x.act(g, act, arg), m.act(g, act, arg));
        int bodies = m.count(5);
        same("count(5)", x.count(5), bodies);
        int i = near(0, Math.max(bodies - 1, 0));
        same("trace(" + i + ")", x.trace(i), m.trace(i));
        return 3;
    }

    private int tapes() {
        int t = near(0, 5);
        int sort = pick(2) == 0 ? 4 : near(-1, 4);
        int i = pick(3) == 0 ? near(0, 59) : near(0, 11);
        switch (pick(6)) {
            case 0: {
                int n = pick(2) == 0 ? near(0, 60) : near(0, 12);
                same("tape(" + t + ", " + sort + ", " + n + ")", x.tape(t, sort, n), m.tape(t, sort, n));
                return 1;
            }
            case 1: {
                long v = pick(2) == 0 ? pick(3) : (long) pick(Integer.MAX_VALUE) << pick(34);
                same("item(" + t + ", " + i + ", " + v + ")", x.item(t, i, v), m.item(t, i, v));
                return 1;
            }
            case 2: same("read(" + t + ", " + i + ")", x.read(t, i), m.read(t, i)); return 1;
            case 3: same("judge(" + t + ", " + i + ")", x.judge(t, i), m.judge(t, i)); return 1;
            case 4: return facts(t);
            default: {
                int other = near(0, 5);
                int j = near(0, 11);
                int n = near(0, 9);
                String call = "shift(" + t + ", " + i + ", " + other + ", " + j + ", " + n + ")";
                same(call, x.shift(t, i, other, j, n), m.shift(t, i, other, j, n));
                return 1;
            }
        }
    }

    /** A tape that tells the facts as they are, but for one perhaps. */
    private int facts(int t) {
        int n = pick(12);
        int from = pick(4);
        same("tape(" + t + ", 4, " + n + ")", x.tape(t, 4, n), m.tape(t, 4, n));
        int used = 1;
        int off = pick(12);
        for (int k = 0; k < 8 && from + k < n; k++) {
            long v = (m.told(3) >> k & 1) ^ (k == off ? 1 : 0);
            same("item(" + t + ", " + (from + k) + ", " + v + ")", x.item(t, from + k, v), m.item(t, from + k, v));
            used++;
        }
        same("judge(" + t + ", " + from + ")", x.judge(t, from), m.judge(t, from));
        return used + 1;
    }
}
