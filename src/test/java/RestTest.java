/** Promises 25 to 35: judging, the image, acts, kinds, counts, tapes. */
public final class RestTest {
    private static final Check CHECK = new Check("RestTest");

    private static void due(String call, long got, long want) {
        CHECK.due(call, got, want);
    }

    public static void main(String[] args) {
        constants();
        judge();
        image();
        imageOfHouses();
        imageOfGuests();
        act();
        actWraps();
        actWrong();
        taken();
        count();
        tape();
        item();
        read();
        shift();
        shiftWrong();
        CHECK.end();
    }

    private static void constants() {
        due("NONE", HatGoes.NONE, -1);
        due("BAD", HatGoes.BAD, -2);
        due("STATE", HatGoes.STATE, -3);
        due("FULL", HatGoes.FULL, -4);
        due("NO", HatGoes.NO, Long.MIN_VALUE);
    }

    private static void judge() {
        HatGoes x = new HatGoes();
        due("tape below", x.judge(-1, 0), HatGoes.NONE);
        due("tape above", x.judge(6, 0), HatGoes.NONE);
        due("nothing there", x.judge(0, 0), 100);
        due("nothing there, place below", x.judge(0, -1), 100);
        for (int sort = 0; sort < 4; sort++) {
            x.tape(0, sort, 9);
            due("sort " + sort, x.judge(0, 0), -12);
            due("cast ahead of the place", x.judge(0, -1), -12);
        }
        x.tape(0, 4, 0);
        due("a row of none", x.judge(0, 0), 100);
        x.tape(5, 4, 10);
        due("all not so", x.judge(5, 0), -5);
        due("from 2 on", x.judge(5, 2), -5);
        due("from 3 on: one is missing", x.judge(5, 3), 107);
        due("from the last on", x.judge(5, 9), 101);
        due("from the end on", x.judge(5, 10), 100);
        due("from beyond the end on", x.judge(5, Integer.MAX_VALUE), 100);
        due("from below", x.judge(5, -1), 100);
        due("from far below", x.judge(5, Integer.MIN_VALUE), 100);
        x.fact(7, true);
        due("the last is otherwise", x.judge(5, 0), 7);
        due("the last is missing", x.judge(5, 3), 107);
        x.item(5, 8, 1);
        due("told from 1 on", x.judge(5, 1), -5);
        due("otherwise from 2 on", x.judge(5, 2), 6);
        x.fact(0, true);
        due("the first is otherwise", x.judge(5, 1), 0);
        due("otherwise ahead of the end", x.judge(5, 9), 0);
        due("so, not so and the end", x.judge(5, 8), 102);
    }

    private static void image() {
        HatGoes x = new HatGoes();
        due("there is none", x.undo(), HatGoes.STATE);
        due("of nobody", x.image(), 0);
        due("to nobody", x.undo(), 0);
        x.guest(6, 1, 2);
        x.guest(0, 3, 4);
        x.row(0, 5, 1);
        x.fact(2, true);
        x.hat(1);
        x.saying();
        x.was(0);
        x.was(1);
        x.book(0);
        due("of two", x.image(), 2);
        x.guest(1, 0, 0);
        x.row(0, 5, 0);
        x.row(0, 6, 1);
        x.fact(2, false);
        x.fact(3, true);
        x.hat(2);
        x.saying();
        x.was(-1);
        x.was(1);
        x.book(-1);
        x.book(1);
        x.book(1);
        x.tape(0, 3, 4);
        x.feed('f');
        x.act(0, 0, 0);
        for (int again = 0; again < 2; again++) {
            due("undo", x.undo(), 2);
            due("guests", x.count(0), 2);
            due("facts", x.told(3), 4);
            due("the hat", x.told(0), 0);
            due("the hour", x.told(1), 1);
            due("was", x.count(2), 2);
            due("was what", x.lied(3), 1);
            due("the book", x.count(3), 1);
            due("what is in the book", x.looked(), -5);
            due("row 5", x.row(0, 5, 0), 1);
            due("row 6", x.row(0, 6, 1), 0);
            x.saying();
            x.fact(5, true);
            x.was(0);
            x.book(0);
        }
        due("a tape stays", x.read(0, 3), 0);
        due("the text stays", x.count(4), 1);
        due("the trace stays", x.count(5), 2);
        due("the newest image", x.image(), 2);
        x.fact(0, true);
        x.undo();
        due("facts of it", x.told(3), 4 + 32);
    }

    private static void imageOfHouses() {
        HatGoes x = new HatGoes();
        x.image();
        CHECK.house(x, "far 2", 0);
        x.undo();
        due("no house held", x.told(2), 1);
        due("but there is one", x.count(1), 1);
        CHECK.house(x, "far 3", 1);
        x.image();
        CHECK.house(x, "far 4", 2);
        due("the newest", x.told(2), 4);
        due("nobody", x.undo(), 0);
        due("the one that held", x.told(2), 3);
        due("three", x.count(1), 3);
        CHECK.house(x, "far", -13);
        due("still the one that held", x.told(2), 3);
        CHECK.house(x, "far 5", 3);
        due("the newest again", x.told(2), 5);
    }

    private static void imageOfGuests() {
        HatGoes x = new HatGoes();
        x.guest(0, 0, 0);
        x.image();
        x.guest(6, 1, 1);
        x.row(1, 0, 1);
        x.hat(1);
        x.undo();
        due("gone", x.of(1, 0), HatGoes.NONE);
        due("the hat is back", x.told(0), 0);
        due("another one", x.guest(6, 2, 2), 1);
        due("its v", x.of(1, 1), 2);
        due("its row is new", x.row(1, 0, 0), 0);
        x.image();
        x.undo();
        due("its v", x.of(1, 1), 2);
        for (int k = 2; k < 7; k++) {
            due("room for more", x.guest(k - 1, 0, 0), k);
        }
        due("seven", x.image(), 7);
        due("seven", x.undo(), 7);
        for (int k = 2; k < 7; k++) {
            due("kind", x.of(k, 0), k - 1);
        }
    }

    /** One of each kind: i is the kind, v is i + 2. */
    private static HatGoes each() {
        HatGoes x = new HatGoes();
        for (int kind = 0; kind < 7; kind++) {
            due("kind " + kind, x.guest(kind, kind + 2, 0), kind);
        }
        return x;
    }

    private static void act(HatGoes x, int guest, int act, int arg, int answer, int... bodies) {
        String call = "act(" + guest + ", " + act + ", " + arg + ")";
        due(call, x.act(guest, act, arg), answer);
        due("bodies of " + call, x.count(5), bodies.length);
        for (int k = 0; k < bodies.length; k++) {
            due("body " + k + " of " + call, x.trace(k), bodies[k]);
        }
        due("behind the last", x.trace(bodies.length), HatGoes.NONE);
        due("ahead of the first", x.trace(-1), HatGoes.NONE);
        due("beyond what is kept", x.trace(20), HatGoes.NONE);
    }

    private static void act() {
        HatGoes x = each();
        act(x, 0, 0, 5, 5, 10);
        act(x, 0, 1, 5, 3, 11, 10);
        act(x, 0, 2, 5, 6, 12, 11, 10);
        act(x, 1, 0, 5, 6, 10);
        act(x, 1, 1, 5, (5 + 1 - 3) ^ 6, 20, 11, 10);
        act(x, 1, 2, 5, ((5 + 1 - 3) ^ 6) * 2, 12, 20, 11, 10);
        act(x, 2, 0, 5, 17, 30, 10);
        act(x, 2, 1, 5, 13, 11, 30, 10);
        act(x, 2, 2, 5, 26, 12, 11, 30, 10);
        act(x, 3, 0, 5, 8, 10);
        act(x, 3, 1, 5, 3, 11, 10);
        act(x, 3, 2, 5, 6 - 1, 40, 12, 11, 10, 11, 10);
        act(x, 4, 0, 5, -9, 50, 10);
        act(x, 4, 1, 5, (-(6 + 4) - 6) ^ 6, 51, 20, 11, 50, 10);
        act(x, 4, 2, 5, ((-(6 + 4) - 6) ^ 6) * 2, 12, 51, 20, 11, 50, 10);
        act(x, 5, 0, 5, 20, 30, 10);
        act(x, 5, 1, 5, 13, 11, 30, 10);
        act(x, 5, 2, 7, (2 * 3 + 5 - 7) * 2, 60, 12, 11, 30, 10);
        act(x, 6, 0, 5, 11 ^ 8, 71, 10);
        int passes5 = ((5 + 6) ^ 8) - 8 + 8;
        int passes1 = ((1 + 6) ^ 8) - 8 + 8;
        act(x, 6, 1, 5, passes5, 70, 11, 71, 10, 10);
        act(x, 6, 2, 5, passes5 * 2 + passes1, 40, 12, 70, 11, 71, 10, 10, 70, 11, 71, 10, 10);
    }

    private static void actWraps() {
        HatGoes x = each();
        act(x, 1, 0, Integer.MAX_VALUE, Integer.MIN_VALUE, 10);
        act(x, 0, 2, Integer.MIN_VALUE, -4, 12, 11, 10);
        act(x, 2, 0, Integer.MAX_VALUE, Integer.MAX_VALUE * 3 + 2, 30, 10);
        act(x, 4, 0, Integer.MIN_VALUE - 4, Integer.MIN_VALUE, 50, 10);
        act(x, 4, 1, Integer.MAX_VALUE, (-(Integer.MIN_VALUE + 4) - 6) ^ 6, 51, 20, 11, 50, 10);
    }

    private static void actWrong() {
        HatGoes x = each();
        int[][] calls = {{-1, 0}, {7, 0}, {0, -1}, {0, 3}};
        for (int[] call : calls) {
            act(x, 0, 1, 5, 3, 11, 10);
            act(x, call[0], call[1], 5, 0);
        }
    }

    private static void taken() {
        HatGoes x = each();
        due("k below", x.taken(0, -1), HatGoes.BAD);
        due("k above", x.taken(0, 7), HatGoes.BAD);
        due("bad ahead of nothing", x.taken(7, 7), HatGoes.BAD);
        due("guest below", x.taken(-1, 0), -11);
        due("guest above", x.taken(7, 0), -11);
        int[] under = {-1, 0, 0, 0, 1, 2, 3};
        for (int kind = 0; kind < 7; kind++) {
            for (int k = 0; k < 7; k++) {
                boolean is = k == 0 || k == kind || k == under[kind];
                due("kind " + kind + " for " + k, x.taken(kind, k), is ? kind : -12);
            }
        }
    }

    private static void count() {
        HatGoes x = each();
        due("below", x.count(-1), HatGoes.BAD);
        due("above", x.count(6), HatGoes.BAD);
        CHECK.house(x, "far 1", 0);
        CHECK.house(x, "far 1", 1);
        x.was(0);
        x.was(0);
        x.was(0);
        x.book(0);
        x.book(0);
        x.book(0);
        x.book(0);
        x.feed(9);
        x.act(3, 2, 1);
        int[] counts = {7, 2, 3, 4, 1, 6};
        for (int what = 0; what < counts.length; what++) {
            due("count(" + what + ")", x.count(what), counts[what]);
        }
    }

    private static void tape() {
        HatGoes x = new HatGoes();
        due("tape below", x.tape(-1, 0, 1), HatGoes.NONE);
        due("tape above", x.tape(6, 0, 1), HatGoes.NONE);
        due("none ahead of bad", x.tape(6, 5, 61), HatGoes.NONE);
        due("sort below", x.tape(0, -2, 1), HatGoes.BAD);
        due("sort above", x.tape(0, 5, 1), HatGoes.BAD);
        due("bad ahead of size", x.tape(0, 5, -1), HatGoes.BAD);
        due("n above", x.tape(0, 0, 61), HatGoes.BAD);
        due("n below", x.tape(0, 0, -1), -14);
        due("n far below", x.tape(0, 4, Integer.MIN_VALUE), -14);
        due("still nothing", x.item(0, 0, 1), -11);
        for (int tape = 0; tape < 6; tape++) {
            for (int sort = 0; sort < 5; sort++) {
                due("a row", x.tape(tape, sort, 60), 1);
                due("its last item", x.item(tape, 59, 1), 1);
                due("its last item", x.read(tape, 59), 1);
                due("a new row", x.tape(tape, sort, 60), 1);
                due("all 0", x.read(tape, 59), 0);
                due("a shorter one", x.tape(tape, sort, 3), 1);
                due("its end", x.read(tape, 3), HatGoes.NO);
                due("its last item", x.read(tape, 2), 0);
                due("a size below", x.tape(tape, sort, -1), -14);
                due("changes nothing", x.read(tape, 2), 0);
            }
            due("a row of none", x.tape(tape, 0, 0), 1);
            due("no item", x.item(tape, 0, 1), -13);
            due("nothing", x.tape(tape, -1, -1), 1);
            due("nothing there", x.item(tape, 0, 1), -11);
            due("no item of it", x.read(tape, 0), HatGoes.NO);
            due("nothing again", x.tape(tape, -1, 99), 1);
        }
    }

    private static void item() {
        HatGoes x = new HatGoes();
        due("tape below", x.item(-1, 0, 1), HatGoes.NONE);
        due("tape above", x.item(6, 0, 1), HatGoes.NONE);
        due("nothing there", x.item(0, 0, 1), -11);
        due("nothing ahead of place", x.item(0, -1, 1), -11);
        long[] v = {0, 1, -1, 127, 128, 255, 256, 32768, 65535, 65536, 1L << 31, 1L << 32, Long.MAX_VALUE,
            Long.MIN_VALUE, 0x123456789abcdefL};
        for (int sort = 0; sort < 5; sort++) {
            x.tape(sort, sort, 2);
            due("place below", x.item(sort, -1, 1), -13);
            due("place above", x.item(sort, 2, 1), -13);
            for (long each : v) {
                due("item", x.item(sort, 1, each), 1);
                long want = sort == 0 ? (byte) each : sort == 1 ? (short) each : sort == 2 ? (int) each
                    : sort == 3 ? each : each != 0 ? 1 : 0;
                due("sort " + sort + " of " + each, x.read(sort, 1), want);
                due("the one ahead of it", x.read(sort, 0), 0);
            }
        }
    }

    private static void read() {
        HatGoes x = new HatGoes();
        due("tape below", x.read(-1, 0), HatGoes.NO);
        due("tape above", x.read(6, 0), HatGoes.NO);
        due("nothing there", x.read(0, 0), HatGoes.NO);
        x.tape(0, 3, 2);
        due("place below", x.read(0, -1), HatGoes.NO);
        due("place above", x.read(0, 2), HatGoes.NO);
        due("the last place", x.read(0, 1), 0);
    }

    private static void rowIs(HatGoes x, int tape, int... items) {
        for (int k = 0; k < items.length; k++) {
            due("item " + k + " of " + tape, x.read(tape, k), items[k]);
        }
    }

    private static HatGoes twoRows() {
        HatGoes x = new HatGoes();
        x.tape(0, 2, 5);
        x.tape(1, 2, 4);
        for (int k = 0; k < 5; k++) {
            x.item(0, k, k + 1);
            x.item(1, k, 10 * k + 10);
        }
        return x;
    }

    private static void shift() {
        HatGoes x = twoRows();
        due("to another", x.shift(0, 1, 1, 2, 2), 2);
        rowIs(x, 1, 10, 20, 2, 3);
        rowIs(x, 0, 1, 2, 3, 4, 5);
        due("to the right in itself", x.shift(0, 0, 0, 1, 4), 4);
        rowIs(x, 0, 1, 1, 2, 3, 4);
        due("to the left in itself", x.shift(0, 1, 0, 0, 4), 4);
        rowIs(x, 0, 1, 2, 3, 4, 4);
        due("none of them", x.shift(0, 5, 1, 4, 0), 0);
        due("all", x.shift(1, 0, 0, 0, 4), 4);
        rowIs(x, 0, 10, 20, 2, 3, 4);
        for (int sort = 0; sort < 5; sort++) {
            x.tape(3, sort, 2);
            x.tape(4, sort, 2);
            x.item(3, 1, 1);
            due("sort " + sort, x.shift(3, 1, 4, 0, 1), 1);
            rowIs(x, 4, 1, 0);
        }
    }

    private static void shiftWrong() {
        HatGoes x = twoRows();
        x.tape(2, 3, 5);
        due("tape below", x.shift(-1, 0, 0, 0, 1), HatGoes.NONE);
        due("tape above", x.shift(6, 0, 0, 0, 1), HatGoes.NONE);
        due("other below", x.shift(0, 0, -1, 0, 1), HatGoes.NONE);
        due("other above", x.shift(0, 0, 6, 0, 1), HatGoes.NONE);
        due("none ahead of nothing", x.shift(5, 0, 6, 0, 1), HatGoes.NONE);
        due("nothing there", x.shift(5, 0, 0, 0, 1), -11);
        due("nothing in the other", x.shift(0, 0, 5, 0, 1), -11);
        due("nothing in both", x.shift(5, 0, 4, 0, 1), -11);
        due("nothing ahead of place", x.shift(5, -1, 0, 0, 1), -11);
        due("unlike", x.shift(0, 0, 2, 0, 1), -12);
        due("unlike ahead of place", x.shift(0, -1, 2, 0, 1), -12);
        due("unlike for none", x.shift(2, 0, 0, 0, 0), -12);
        int[][] places = {{-1, 0, 1}, {0, -1, 1}, {0, 0, -1}, {5, 0, 1}, {0, 4, 1}, {4, 0, 2}, {0, 3, 2},
            {6, 0, 0}, {0, 5, 0}, {0, 0, 5}, {0, 0, 61}, {Integer.MAX_VALUE, 0, Integer.MAX_VALUE},
            {1, 0, Integer.MAX_VALUE}, {0, Integer.MAX_VALUE, 1}, {Integer.MIN_VALUE, 0, 1},
            {0, 0, Integer.MIN_VALUE}, {1, 1, Integer.MIN_VALUE}};
        for (int[] p : places) {
            due("shift(0, " + p[0] + ", 1, " + p[1] + ", " + p[2] + ")", x.shift(0, p[0], 1, p[1], p[2]), -13);
        }
        rowIs(x, 0, 1, 2, 3, 4, 5);
        rowIs(x, 1, 10, 20, 30, 40);
    }
}
