import java.io.IOException;
import java.util.function.Supplier;

/** Boundary cases that the document names, of judging, images, acts and tapes: a test for each sentence. */
public final class RestEdgesTest {
    private static final int GUEST = 0, LIAR = 1, TOLD = 6;
    private static final int BYTES = 0, SHORTS = 1, INTS = 2, LONGS = 3, BOOLEANS = 4;

    private static Edges edges;

    private static void due(String call, long got, long want) {
        edges.due(call, got, want);
    }

    public static void main(String[] args) throws IOException {
        edges = new Edges("RestEdgesTest");
        answers();
        no();
        refusals();
        askedChangesNothing();
        judgeOtherwise();
        judgeNone();
        judgeEnds();
        judgeBelow();
        judgeNothing();
        judgeWrong();
        image();
        imageKeepsGuests();
        imageKeepsRest();
        imageOfFullRows();
        imageKeepsHouse();
        imageKeepsNoMore();
        undo();
        undoNone();
        imageAgain();
        actsWrap();
        actNone();
        bodies();
        trace();
        traceAtFirst();
        traceKept();
        taken();
        takenWrong();
        count();
        countWrong();
        tapesAtFirst();
        tapeSizes();
        tapeNothing();
        tapeWrong();
        tapeOrder();
        itemBits();
        itemPlaces();
        itemOrder();
        read();
        readNothing();
        shiftPlaces();
        shiftWithin();
        shiftWrong();
        shiftOrder();
        edges.end();
    }

    private static void answers() {
        edges.says("NONE (-1) no such number; BAD (-2) a number is not as told; STATE (-3) as told; FULL (-4)");
        due("NONE", HatGoes.NONE, -1);
        due("BAD", HatGoes.BAD, -2);
        due("STATE", HatGoes.STATE, -3);
        due("FULL", HatGoes.FULL, -4);
    }

    private static void no() {
        edges.says("`NO = Long.MIN_VALUE`: There is no such number.");
        due("NO", HatGoes.NO, -9223372036854775807L - 1);
        HatGoes x = new HatGoes();
        x.tape(0, LONGS, 1);
        due("an item may be NO, too", x.item(0, 0, HatGoes.NO), 1);
        due("and is read so", x.read(0, 0), HatGoes.NO);
    }

    private static void refusals() {
        edges.says("NOTHING (-11): nothing is there; CAST (-12): another sort or KIND; PLACE (-13): no such place; SIZE"
            + " (-14): a size below 0.");
        HatGoes x = Edges.alike(LIAR, 1);
        due("no guest", x.taken(1, 0), -11);
        due("no row", x.item(0, 0, 0), -11);
        due("another kind", x.taken(0, 2), -12);
        x.tape(0, INTS, 3);
        due("another sort", x.judge(0, 0), -12);
        due("no place", x.item(0, 3, 0), -13);
        due("a size", x.tape(0, INTS, -1), -14);
    }

    private static void askedChangesNothing() {
        edges.says("What is answered so changes nothing; what is asked changes nothing.");
        for (int what = 0; what <= 5; what++) {
            int each = what;
            edges.asked("of(4, " + what + ")", x -> x.of(4, each));
            edges.asked("count(" + what + ")", x -> x.count(each));
            edges.asked("told(" + what % 4 + ")", x -> x.told(each % 4));
            edges.asked("read(" + what + ", 0)", x -> x.read(each, 0));
            edges.asked("trace(" + what * 2 + ")", x -> x.trace(each * 2));
            edges.asked("taken(" + what + ", 3)", x -> x.taken(each, 3));
            edges.asked("judge(" + what + ", 1)", x -> x.judge(each, 1));
        }
    }

    /** A row of booleans from some place of tape 0 on tells the facts as they are, until its end. */
    private static HatGoes tells(int facts, int size, int from) {
        HatGoes x = Edges.facts(new HatGoes(), facts);
        x.tape(0, BOOLEANS, size);
        for (int k = 0; k < 8; k++) {
            x.item(0, from + k, facts >> k & 1);
        }
        return x;
    }

    private static void judgeOtherwise() {
        edges.says("FACTS told by a row of booleans, from a place on, by numbers, are JUDGED: the first that is otherwise;");
        for (int from = 0; from <= 52; from += 13) {
            for (int fact = 0; fact < 8; fact++) {
                HatGoes x = tells(0b10110010, 60, from);
                x.fact(fact, (0b10110010 >> fact & 1) == 0);
                due("fact " + fact + " otherwise, from " + from, x.judge(0, from), fact);
                x.item(0, from + 7, 0);
                x.fact(7, true);
                due("and fact 7", x.judge(0, from), fact);
            }
        }
    }

    private static void judgeNone() {
        edges.says("-5: none, or there is none to look at;");
        for (int facts = 0; facts <= 255; facts += 17) {
            due("eight from 0", tells(facts, 8, 0).judge(0, 0), -5);
            due("eight from 52 of 60", tells(facts, 60, 52).judge(0, 52), -5);
            due("eight from 1 of 9", tells(facts, 9, 1).judge(0, 1), -5);
        }
    }

    private static void judgeEnds() {
        edges.says("100 and how many were looked at, if the row ends ahead of that");
        for (int size = 0; size < 8; size++) {
            due("a row of " + size, tells(0b01101101, size, 0).judge(0, 0), 100 + size);
            due("the last " + size + " of 60", tells(0b01101101, 60, 60 - size).judge(0, 60 - size), 100 + size);
            HatGoes x = tells(0b01101101, size, 0);
            for (int fact = 0; fact < 8; fact++) {
                x.fact(fact, (0b01101101 >> fact & 1) == 0);
                due("a row of " + size + ", fact " + fact + " otherwise", x.judge(0, 0), fact < size ? fact : 100 + size);
                x.fact(fact, (0b01101101 >> fact & 1) == 1);
            }
        }
        HatGoes x = tells(0, 60, 0);
        due("from the last on", x.judge(0, 59), 101);
        due("from the end on", x.judge(0, 60), 100);
        due("from behind the end on", x.judge(0, 61), 100);
        due("from far behind", x.judge(0, Integer.MAX_VALUE), 100);
        due("from far behind", x.judge(0, Integer.MAX_VALUE - 7), 100);
    }

    private static void judgeBelow() {
        edges.says("(or the place is below 0, or the TAPE holds nothing)");
        int[] places = {-1, -2, -7, -8, -60, Integer.MIN_VALUE, Integer.MIN_VALUE + 8};
        for (int place : places) {
            due("from " + place, tells(0, 60, 0).judge(0, place), 100);
            due("from " + place + ", all otherwise", tells(255, 0, 0).judge(0, place), 100);
            due("nothing, from " + place, new HatGoes().judge(0, place), 100);
        }
    }

    private static void judgeNothing() {
        edges.says("or the TAPE holds nothing");
        for (int tape = 0; tape < 6; tape++) {
            HatGoes x = new HatGoes();
            due("nothing at first", x.judge(tape, 0), 100);
            due("far behind", x.judge(tape, Integer.MAX_VALUE), 100);
            x.tape(tape, BOOLEANS, 8);
            due("a row", x.judge(tape, 0), -5);
            x.tape(tape, -1, 0);
            due("nothing again", x.judge(tape, 0), 100);
        }
    }

    private static void judgeWrong() {
        edges.says("`int judge(int tape, int i)`: JUDGED from place i of a TAPE on. NONE: tape; CAST: it is no row of"
            + " booleans.");
        for (int tape : Edges.outside(0, 5)) {
            edges.refused("judge(" + tape + ", 0)", x -> x.judge(tape, 0), -1);
            edges.refused("judge(" + tape + ", -1)", x -> x.judge(tape, -1), -1);
        }
        for (int sort = BYTES; sort <= LONGS; sort++) {
            for (int size = 0; size <= 60; size += 20) {
                int each = sort;
                int n = size;
                Supplier<HatGoes> made = () -> {
                    HatGoes x = new HatGoes();
                    x.tape(5, each, n);
                    return x;
                };
                edges.still(size + " of sort " + sort, made, x -> x.judge(5, 0), -12);
                edges.still(size + " of sort " + sort + " ahead of the place", made, x -> x.judge(5, -1), -12);
                edges.still(size + " of sort " + sort + " ahead of the end", made, x -> x.judge(5, 61), -12);
            }
        }
    }

    private static void image() {
        edges.says("`int image()`: THE IMAGE is taken: how many GUESTS there are.");
        HatGoes x = new HatGoes();
        for (int guests = 0; guests <= 7; guests++) {
            due(guests + " guests", x.image(), guests);
            due("undo with " + guests, x.undo(), guests);
            due("count", x.count(0), guests);
            x.guest(guests % 7, 0, 0);
        }
        due("seven guests", x.image(), 7);
    }

    private static void imageKeepsGuests() {
        edges.says("THE IMAGE: GUESTS with all that is theirs");
        HatGoes x = new HatGoes();
        x.guest(TOLD, 3, 77);
        x.row(0, 0, 1);
        x.image();
        x.row(0, 0, 0);
        x.row(0, 7, 1);
        x.guest(TOLD, 4, 78);
        x.row(1, 7, 1);
        due("one", x.undo(), 1);
        due("the other is gone", x.of(1, 0), -1);
        due("its v", x.of(0, 1), 3);
        due("it knows", x.of(0, 2), 77);
        due("its row", x.row(0, 7, 0), 0);
        due("its row", x.row(0, 0, 1), 1);
        due("a new one takes the number", x.guest(TOLD, 5, 79), 1);
        due("its v is its own", x.of(1, 1), 5);
        due("its row is 0 at first", x.row(1, 7, 0), 0);
        for (int k = 2; k < 7; k++) {
            due("guest " + k, x.guest(LIAR, 0, 0), k);
        }
        due("full", x.guest(LIAR, 0, 0), -4);
        due("undo of a full table", x.undo(), 1);
        due("room again", x.guest(GUEST, 0, 0), 1);
    }

    private static void imageKeepsRest() {
        edges.says("FACTS, THE HAT, HOUR, WAS, the BOOK, which HOUSE holds.");
        HatGoes x = Edges.alike(GUEST, 5);
        Edges.facts(x, 129);
        x.hat(3);
        Edges.says(x, 9);
        x.was(2);
        x.was(1);
        x.book(1);
        x.book(1);
        x.book(0);
        x.image();
        Edges.facts(x, 126);
        x.hat(4);
        Edges.says(x, 3);
        x.was(0);
        x.was(-1);
        for (int k = 0; k < 12; k++) {
            x.was(4);
            x.book(0);
        }
        x.book(-1);
        for (int k = 0; k < 12; k++) {
            x.book(0);
        }
        for (int round = 0; round < 2; round++) {
            due("undo", x.undo(), 5);
            due("facts", x.told(3), 129);
            due("the hat", x.told(0), 2);
            due("the hour", x.told(1), 9);
            due("two of was", x.count(2), 2);
            due("those two", x.lied(2), 1);
            due("three of the book", x.count(3), 3);
            due("those three", x.looked(), 2);
            due("room for more", x.was(2), 3);
            due("of them, too", x.lied(2), 1);
            due("room for more", x.book(0), 4);
        }
    }

    private static void imageOfFullRows() {
        edges.says("the BOOK, which HOUSE holds.");
        HatGoes x = Edges.alike(GUEST, 3);
        for (int k = 0; k < 12; k++) {
            x.was(k % 3);
            x.book(1);
        }
        x.image();
        x.was(-1);
        x.book(-1);
        for (int k = 0; k < 4; k++) {
            x.guest(LIAR, 0, 0);
        }
        x.hat(6);
        due("seven guests", x.count(0), 7);
        due("room in was", x.was(6), 1);
        due("room in the book", x.book(0), 1);
        due("undo", x.undo(), 3);
        due("was is full", x.was(0), -4);
        due("the book is full", x.book(0), -4);
        due("no lie in was", x.lied(1), 0);
        due("nothing otherwise in the book", x.looked(), -5);
        x.hat(2);
        due("three sit round the table", x.saying(), 1);
        due("the first is to the right of the third", x.told(0), 0);
        due("who is gone has no hat", x.hat(3), -1);
        due("who is gone is nobody to come to", x.comes(3), -1);
    }

    private static void imageKeepsHouse() {
        edges.says("which HOUSE holds");
        HatGoes x = new HatGoes();
        x.image();
        Edges.house(x, "far 2");
        due("one holds", x.told(2), 2);
        x.undo();
        due("none holds", x.told(2), 1);
        due("the next one's number", Edges.house(x, "far 3"), 1);
        x.image();
        Edges.house(x, "far 4");
        x.undo();
        due("the one that held", x.told(2), 3);
        for (int k = 3; k < 6; k++) {
            due("house " + k, Edges.house(x, "far 9"), k);
            x.undo();
            due("the one that held", x.told(2), 3);
        }
        due("six were", Edges.house(x, "far 9"), -4);
        due("the one that held", x.told(2), 3);
    }

    private static void imageKeepsNoMore() {
        edges.says("`int undo()`: All is as THE IMAGE: how many GUESTS.");
        HatGoes x = Edges.alike(TOLD, 1);
        Edges.feed(x, "far");
        x.tape(0, BYTES, 1);
        x.act(0, 0, 1);
        x.image();
        Edges.feed(x, " 7");
        x.item(0, 0, 5);
        x.tape(1, LONGS, 2);
        x.act(0, 2, 1);
        x.undo();
        due("the text stays as it is", x.count(4), 5);
        due("the tapes stay as they are", x.read(0, 0), 5);
        due("the tapes stay as they are", x.read(1, 1), 0);
        due("the trace stays as it is", x.count(5), 12);
        due("the trace stays as it is", x.trace(11), 10);
        due("the text is a house", x.house(), 0);
        x.undo();
        due("houses stay", x.count(1), 1);
    }

    private static void undo() {
        edges.says("All is as THE IMAGE: how many GUESTS.");
        HatGoes x = Edges.evening();
        due("undo", x.undo(), 6);
        due("the hat", x.told(0), 3);
        due("the hour", x.told(1), 0);
        due("far", x.told(2), 2);
        due("facts", x.told(3), 9);
        due("was", x.count(2), 2);
        due("the book", x.count(3), 2);
        Edges.says(x, 5);
        due("undo again", x.undo(), 6);
        due("the hat", x.told(0), 3);
        due("the hour", x.told(1), 0);
        Supplier<HatGoes> undone = () -> {
            HatGoes y = Edges.evening();
            y.undo();
            return y;
        };
        edges.still("undo of nothing new", undone, HatGoes::undo, 6);
    }

    private static void undoNone() {
        edges.says("STATE: there is none.");
        edges.still("undo of a new one", HatGoes::new, HatGoes::undo, -3);
        edges.still("undo without an image", () -> Edges.housed(Edges.alike(LIAR, 7), "far 2"), HatGoes::undo, -3);
        HatGoes x = new HatGoes();
        due("an image of nobody", x.image(), 0);
        due("is one", x.undo(), 0);
    }

    private static void imageAgain() {
        edges.says("THE IMAGE is taken");
        HatGoes x = Edges.alike(LIAR, 7);
        Edges.says(x, 1);
        x.image();
        Edges.says(x, 1);
        due("a newer one", x.image(), 7);
        Edges.says(x, 1);
        x.undo();
        due("the newer one's hour", x.told(1), 2);
        due("the newer one's hat", x.told(0), 5);
    }

    private static HatGoes kinds() {
        HatGoes x = new HatGoes();
        for (int kind = 0; kind < 7; kind++) {
            x.guest(kind, 9 - kind, 0);
        }
        return x;
    }

    private static int slowTold(int x, int i, int v) {
        return ((x + i) ^ v) - v + 2 + i;
    }

    /** What the document's bodies come to, worked out by hand for each kind. */
    private static int slowAct(int kind, int act, int x, int i, int v) {
        int spite = (-(x + 1 + i) - v) ^ 6;
        int[][] answers = {
            {x + i, x + i - v, (x + i - v) * 2},
            {x + i, (x + i - v) ^ 6, ((x + i - v) ^ 6) * 2},
            {x * 3 + i, x * 3 + i - v, (x * 3 + i - v) * 2},
            {x + i, x + i - v, (x + i - v) * 2 + 1 + i - v},
            {-(x + i), spite, spite * 2},
            {x * 3 + i, x * 3 + i - v, ((x - i) * 3 + i - v) * 2},
            {(x + i) ^ v, slowTold(x, i, v), slowTold(x, i, v) * 2 + slowTold(1, i, v)}};
        return answers[kind][act];
    }

    private static void actsWrap() {
        edges.says("ACTS of a GUEST with x (wrapping): 0 speaks, 1 passes, 2 tells; i its number.");
        int[] args = {0, 1, -1, 7, 1 << 30, -(1 << 30), Integer.MAX_VALUE, Integer.MAX_VALUE - 8, Integer.MIN_VALUE,
            Integer.MIN_VALUE + 8, 715827882, 715827883, 1431655765};
        for (int kind = 0; kind < 7; kind++) {
            for (int act = 0; act <= 2; act++) {
                HatGoes x = kinds();
                for (int arg : args) {
                    due("act(" + kind + ", " + act + ", " + arg + ")", x.act(kind, act, arg),
                        slowAct(kind, act, arg, kind, 9 - kind));
                }
            }
        }
        HatGoes x = new HatGoes();
        x.guest(GUEST, 9, 0);
        due("below the lowest", x.act(0, 1, Integer.MIN_VALUE), Integer.MAX_VALUE - 8);
        due("twice that", x.act(0, 2, Integer.MIN_VALUE), -18);
        x.guest(GUEST, 0, 0);
        due("above the highest", x.act(1, 0, Integer.MAX_VALUE), Integer.MIN_VALUE);
        HatGoes spite = Edges.alike(4, 1);
        due("less the lowest", spite.act(0, 0, Integer.MIN_VALUE), Integer.MIN_VALUE);
    }

    private static void actNone() {
        edges.says("0, and no TRACE then: no such GUEST, act.");
        for (int guest : Edges.outside(0, 5)) {
            HatGoes x = Edges.evening();
            due("bodies ahead of it", x.count(5), 12);
            due("act(" + guest + ", 0, 7)", x.act(guest, 0, 7), 0);
            due("no bodies", x.count(5), 0);
            due("no trace", x.trace(0), -1);
        }
        for (int act : Edges.outside(0, 2)) {
            HatGoes x = Edges.evening();
            due("act(0, " + act + ", 7)", x.act(0, act, 7), 0);
            due("no bodies", x.count(5), 0);
            due("no trace", x.trace(0), -1);
            due("no trace", x.trace(11), -1);
        }
        HatGoes x = new HatGoes();
        due("nobody", x.act(0, 0, 7), 0);
        due("no trace", x.trace(0), -1);
        Supplier<HatGoes> before = () -> {
            HatGoes y = Edges.evening();
            y.act(6, 0, 1);
            return y;
        };
        edges.still("nothing else changes", before, y -> y.act(0, 3, 1), 0);
    }

    private static void bodies() {
        edges.says("the body of its KIND, or, if that has none, of the next KIND above that has one");
        int[][] bodies = {{10}, {11, 10}, {12, 11, 10}, {10}, {20, 11, 10}, {12, 20, 11, 10}, {30, 10}, {11, 30, 10},
            {12, 11, 30, 10}, {10}, {11, 10}, {40, 12, 11, 10, 11, 10}, {50, 10}, {51, 20, 11, 50, 10},
            {12, 51, 20, 11, 50, 10}, {30, 10}, {11, 30, 10}, {60, 12, 11, 30, 10}, {71, 10}, {70, 11, 71, 10, 10},
            {40, 12, 70, 11, 71, 10, 10, 70, 11, 71, 10, 10}};
        HatGoes x = kinds();
        for (int k = 0; k < bodies.length; k++) {
            x.act(k / 3, k % 3, 5);
            due("how many of " + k, x.count(5), bodies[k].length);
            for (int i = 0; i < bodies[k].length; i++) {
                due("body " + i + " of " + k, x.trace(i), bodies[k][i]);
            }
            due("none behind the last of " + k, x.trace(bodies[k].length), -1);
        }
    }

    private static void trace() {
        edges.says("`int trace(int i)`: THE TRACE's i-th body. NONE.");
        for (int i : Edges.outside(0, 11)) {
            edges.refused("trace(" + i + ")", x -> x.trace(i), -1);
        }
        edges.refused("trace(0)", x -> x.trace(0), 40);
        edges.refused("trace(11)", x -> x.trace(11), 10);
    }

    private static void traceAtFirst() {
        edges.says("THE TRACE: the numbers of the bodies that ran in the latest act(), as they began");
        edges.still("no act yet", HatGoes::new, x -> x.trace(0), -1);
        HatGoes x = kinds();
        due("no act yet", x.count(5), 0);
        due("no act yet", x.trace(0), -1);
        x.act(6, 2, 1);
        x.act(0, 0, 1);
        due("the latest alone", x.count(5), 1);
        due("the latest alone", x.trace(0), 10);
        due("nothing of the one ahead of it", x.trace(1), -1);
    }

    private static void traceKept() {
        edges.says("the first 20 are kept");
        // No act has more than twelve bodies, so all are kept.
        HatGoes x = kinds();
        x.act(6, 2, 1);
        due("twelve", x.count(5), 12);
        due("the twelfth", x.trace(11), 10);
        due("no thirteenth", x.trace(12), -1);
        due("no twentieth", x.trace(19), -1);
        due("no more", x.trace(20), -1);
    }

    private static void taken() {
        edges.says("A GUEST taken for one of KIND k (0 .. 6), or one under that: its KIND.");
        boolean[][] under = new boolean[7][7];
        int[][] pairs = {{0, 0}, {1, 0}, {1, 1}, {2, 0}, {2, 2}, {3, 0}, {3, 3}, {4, 0}, {4, 1}, {4, 4}, {5, 0}, {5, 2},
            {5, 5}, {6, 0}, {6, 3}, {6, 6}};
        for (int[] pair : pairs) {
            under[pair[0]][pair[1]] = true;
        }
        HatGoes x = kinds();
        for (int kind = 0; kind < 7; kind++) {
            for (int k = 0; k < 7; k++) {
                due("kind " + kind + " for " + k, x.taken(kind, k), under[kind][k] ? kind : -12);
            }
        }
        edges.refused("another kind", y -> y.taken(0, 1), -12);
        edges.refused("a kind that is under its own", y -> y.taken(2, 4), -12);
    }

    private static void takenWrong() {
        edges.says("BAD: k; NOTHING: no such GUEST; CAST.");
        for (int k : Edges.outside(0, 6)) {
            edges.refused("taken(0, " + k + ")", x -> x.taken(0, k), -2);
            edges.refused("k ahead of the guest", x -> x.taken(6, k), -2);
            edges.still("nobody, k ahead of it", HatGoes::new, x -> x.taken(0, k), -2);
        }
        for (int guest : Edges.outside(0, 5)) {
            edges.refused("taken(" + guest + ", 0)", x -> x.taken(guest, 0), -11);
            edges.refused("taken(" + guest + ", 6)", x -> x.taken(guest, 6), -11);
        }
        edges.still("nobody", HatGoes::new, x -> x.taken(0, 0), -11);
        due("the last of seven", kinds().taken(6, 6), 6);
        due("nobody behind it", kinds().taken(7, 6), -11);
    }

    private static void count() {
        edges.says("0 GUESTS, 1 HOUSES, 2 of WAS, 3 of the BOOK, 4 bytes of THE TEXT, 5 bodies that ran in the latest act()"
            + " (all, kept or not).");
        int[] evening = {6, 2, 3, 3, 3, 12};
        for (int what = 0; what <= 5; what++) {
            int each = what;
            edges.still("a new one: count(" + what + ")", HatGoes::new, x -> x.count(each), 0);
            edges.refused("count(" + what + ")", x -> x.count(each), evening[what]);
        }
    }

    private static void countWrong() {
        edges.says("5 bodies that ran in the latest act() (all, kept or not). BAD.");
        for (int what : Edges.outside(0, 5)) {
            edges.refused("count(" + what + ")", x -> x.count(what), -2);
            edges.still("nobody: count(" + what + ")", HatGoes::new, x -> x.count(what), -2);
        }
    }

    private static void tapesAtFirst() {
        edges.says("TAPES 0 .. 5 hold nothing (at first), or a row of 0 bytes, 1 shorts, 2 ints, 3 longs, 4 booleans (items"
            + " 0, 1).");
        for (int tape = 0; tape <= 5; tape++) {
            int each = tape;
            edges.still("nothing at first", HatGoes::new, x -> x.item(each, 0, 1), -11);
            edges.still("nothing at first", HatGoes::new, x -> x.read(each, 0), HatGoes.NO);
            edges.still("nothing at first", HatGoes::new, x -> x.shift(each, 0, each, 0, 0), -11);
        }
    }

    private static void tapeSizes() {
        edges.says("A TAPE becomes a row of n (0 .. 60) of a sort, all 0");
        int[] sizes = {60, 59, 1, 0, 60};
        for (int tape = 0; tape <= 5; tape++) {
            HatGoes x = new HatGoes();
            for (int sort = BYTES; sort <= BOOLEANS; sort++) {
                for (int size : sizes) {
                    due(size + " of sort " + sort, x.tape(tape, sort, size), 1);
                    due("the last is 0", x.read(tape, size - 1), size == 0 ? HatGoes.NO : 0);
                    due("there is none behind", x.read(tape, size), HatGoes.NO);
                    due("the first becomes 1", x.item(tape, 0, 1), size == 0 ? -13 : 1);
                    due("the last becomes 1", x.item(tape, size - 1, 1), size == 0 ? -13 : 1);
                    due("there is none behind", x.item(tape, size, 1), -13);
                }
                due("made anew", x.tape(tape, sort, 60), 1);
                due("all 0", x.read(tape, 0) + x.read(tape, 58) + x.read(tape, 59), 0);
            }
        }
    }

    private static void tapeNothing() {
        edges.says("or holds nothing (sort -1: n does not matter): 1.");
        int[] sizes = {0, 1, -1, 60, 61, Integer.MAX_VALUE, Integer.MIN_VALUE};
        for (int size : sizes) {
            HatGoes x = new HatGoes();
            due("nothing as it was", x.tape(0, -1, size), 1);
            x.tape(0, INTS, 3);
            due("nothing", x.tape(0, -1, size), 1);
            due("no item", x.read(0, 0), HatGoes.NO);
            due("nothing there", x.item(0, 0, 1), -11);
            due("no such tape", x.tape(6, -1, size), -1);
        }
        HatGoes x = new HatGoes();
        x.tape(0, INTS, 3);
        x.item(0, 1, 8);
        x.tape(0, -1, 3);
        x.tape(0, INTS, 3);
        due("all 0 behind nothing", x.read(0, 1), 0);
    }

    private static void tapeWrong() {
        edges.says("`int tape(int tape, int sort, int n)`");
        for (int tape : Edges.outside(0, 5)) {
            edges.refused("tape(" + tape + ", 2, 3)", x -> x.tape(tape, INTS, 3), -1);
            edges.refused("tape(" + tape + ", -1, 3)", x -> x.tape(tape, -1, 3), -1);
        }
        for (int sort : Edges.outside(-1, 4)) {
            edges.refused("tape(0, " + sort + ", 3)", x -> x.tape(0, sort, 3), -2);
        }
        int[] above = {61, 62, 256, 1 << 16, Integer.MAX_VALUE};
        int[] below = {-1, -2, -60, -256, Integer.MIN_VALUE};
        for (int sort = BYTES; sort <= BOOLEANS; sort++) {
            int each = sort;
            for (int n : above) {
                edges.refused("tape(0, " + sort + ", " + n + ")", x -> x.tape(0, each, n), -2);
                edges.refused("tape(5, " + sort + ", " + n + ")", x -> x.tape(5, each, n), -2);
            }
            for (int n : below) {
                edges.refused("tape(0, " + sort + ", " + n + ")", x -> x.tape(0, each, n), -14);
                edges.refused("tape(5, " + sort + ", " + n + ")", x -> x.tape(5, each, n), -14);
            }
        }
    }

    private static void tapeOrder() {
        edges.says("NONE: tape; BAD: sort, n above 60; SIZE.");
        edges.refused("the tape ahead of the sort", x -> x.tape(6, 5, 3), -1);
        edges.refused("the tape ahead of n", x -> x.tape(-1, 2, 61), -1);
        edges.refused("the tape ahead of a size", x -> x.tape(-1, 2, -1), -1);
        edges.refused("the sort ahead of a size", x -> x.tape(0, 5, -1), -2);
        edges.refused("the sort ahead of a size", x -> x.tape(0, -2, -1), -2);
    }

    private static void itemBits() {
        edges.says("(its lowest bits, as many as an item has; booleans: whether v is not 0)");
        long[][] cases = {{127, 127}, {128, -128}, {255, -1}, {256, 0}, {-128, -128}, {-129, 127}, {1L << 32, 0}};
        bits(BYTES, cases);
        bits(SHORTS, new long[][] {{32767, 32767}, {32768, -32768}, {65535, -1}, {65536, 0}, {-32768, -32768},
            {-32769, 32767}, {1L << 32, 0}, {128, 128}});
        bits(INTS, new long[][] {{2147483647L, 2147483647L}, {2147483648L, -2147483648L}, {4294967295L, -1},
            {4294967296L, 0}, {-2147483648L, -2147483648L}, {-2147483649L, 2147483647L}, {32768, 32768}});
        bits(LONGS, new long[][] {{Long.MAX_VALUE, Long.MAX_VALUE}, {Long.MIN_VALUE, Long.MIN_VALUE}, {-1, -1}, {0, 0},
            {2147483648L, 2147483648L}});
        bits(BOOLEANS, new long[][] {{0, 0}, {1, 1}, {2, 1}, {-1, 1}, {256, 1}, {1L << 32, 1}, {Long.MIN_VALUE, 1},
            {Long.MAX_VALUE, 1}});
    }

    private static void bits(int sort, long[][] cases) {
        HatGoes x = new HatGoes();
        x.tape(0, sort, 3);
        for (long[] c : cases) {
            due("item of sort " + sort, x.item(0, 1, c[0]), 1);
            due("sort " + sort + " of " + c[0], x.read(0, 1), c[1]);
            due("ahead of it", x.read(0, 0), 0);
            due("behind it", x.read(0, 2), 0);
        }
    }

    private static void itemPlaces() {
        edges.says("`int item(int tape, int i, long v)`: Item i of a TAPE becomes v");
        for (int tape : Edges.outside(0, 5)) {
            edges.refused("item(" + tape + ", 0, 1)", x -> x.item(tape, 0, 1), -1);
        }
        // Tape 0 has 4 items, tape 4 none, tape 5 is nothing.
        for (int i : Edges.outside(0, 3)) {
            edges.refused("item(0, " + i + ", 1)", x -> x.item(0, i, 1), -13);
        }
        for (int i : Edges.outside(0, -1)) {
            edges.refused("item(4, " + i + ", 1)", x -> x.item(4, i, 1), -13);
            edges.refused("item(5, " + i + ", 1)", x -> x.item(5, i, 1), -11);
        }
        HatGoes x = Edges.evening();
        due("the first", x.item(0, 0, 9), 1);
        due("the last", x.item(0, 3, 9), 1);
        x.tape(5, LONGS, 60);
        due("the last of 60", x.item(5, 59, 9), 1);
        due("the 61st", x.item(5, 60, 9), -13);
    }

    private static void itemOrder() {
        edges.says("1. NONE; NOTHING; PLACE.");
        edges.refused("the tape ahead of the place", x -> x.item(6, -1, 1), -1);
        edges.refused("nothing ahead of the place", x -> x.item(5, -1, 1), -11);
        edges.refused("nothing ahead of the place", x -> x.item(5, 60, 1), -11);
    }

    private static void read() {
        edges.says("`long read(int tape, int i)`: Item i of a TAPE. NO: no such TAPE, nothing there, no such place.");
        for (int tape : Edges.outside(0, 5)) {
            edges.refused("read(" + tape + ", 0)", x -> x.read(tape, 0), HatGoes.NO);
        }
        for (int i : Edges.outside(0, 3)) {
            edges.refused("read(0, " + i + ")", x -> x.read(0, i), HatGoes.NO);
        }
        edges.refused("the first", x -> x.read(0, 0), 7);
        edges.refused("the last", x -> x.read(0, 3), -7);
        edges.refused("of a row of none", x -> x.read(4, 0), HatGoes.NO);
        HatGoes x = new HatGoes();
        x.tape(5, SHORTS, 60);
        due("the last of 60", x.read(5, 59), 0);
        due("the 61st", x.read(5, 60), HatGoes.NO);
    }

    private static void readNothing() {
        edges.says("NO: no such TAPE, nothing there, no such place.");
        int[] places = {0, 1, -1, 59, 60, Integer.MAX_VALUE, Integer.MIN_VALUE};
        for (int place : places) {
            edges.refused("nothing there: read(5, " + place + ")", x -> x.read(5, place), HatGoes.NO);
            edges.refused("a row of none: read(4, " + place + ")", x -> x.read(4, place), HatGoes.NO);
        }
    }

    /** Tapes 0 and 1 with rows of ints: 1 2 3 4 5 and 10 20 30. */
    private static HatGoes rows() {
        HatGoes x = new HatGoes();
        x.tape(0, INTS, 5);
        x.tape(1, INTS, 3);
        for (int k = 0; k < 5; k++) {
            x.item(0, k, k + 1);
            x.item(1, k, 10 * k + 10);
        }
        return x;
    }

    private static void rowIs(HatGoes x, int tape, int... items) {
        for (int k = 0; k < items.length; k++) {
            due("item " + k + " of " + tape, x.read(tape, k), items[k]);
        }
        due("no more items of " + tape, x.read(tape, items.length), HatGoes.NO);
    }

    private static void shiftPlaces() {
        edges.says("PLACE: n, i or j is below 0, or beyond either's end.");
        for (int i = -2; i <= 7; i++) {
            for (int j = -2; j <= 5; j++) {
                for (int n = -2; n <= 7; n++) {
                    boolean fits = i >= 0 && j >= 0 && n >= 0 && i + n <= 5 && j + n <= 3;
                    int from = i;
                    int to = j;
                    int many = n;
                    String call = "shift(0, " + i + ", 1, " + j + ", " + n + ")";
                    if (fits) {
                        HatGoes x = rows();
                        due(call, x.shift(0, i, 1, j, n), n);
                        rowIs(x, 0, 1, 2, 3, 4, 5);
                        int[] want = {10, 20, 30};
                        for (int k = 0; k < n; k++) {
                            want[j + k] = i + k + 1;
                        }
                        rowIs(x, 1, want);
                    } else {
                        edges.still(call, RestEdgesTest::rows, x -> x.shift(0, from, 1, to, many), -13);
                    }
                }
            }
        }
        int[][] far = {{Integer.MAX_VALUE, 0, 1}, {0, Integer.MAX_VALUE, 1}, {0, 0, Integer.MAX_VALUE},
            {Integer.MAX_VALUE, 0, Integer.MAX_VALUE}, {1, 1, Integer.MAX_VALUE}, {Integer.MIN_VALUE, 0, 1},
            {0, Integer.MIN_VALUE, 1}, {0, 0, Integer.MIN_VALUE}, {Integer.MIN_VALUE, 0, Integer.MIN_VALUE},
            {5, 3, Integer.MIN_VALUE}, {Integer.MAX_VALUE, 3, 0}, {5, Integer.MAX_VALUE, 0}};
        for (int[] f : far) {
            edges.still("shift(0, " + f[0] + ", 1, " + f[1] + ", " + f[2] + ")", RestEdgesTest::rows,
                x -> x.shift(0, f[0], 1, f[1], f[2]), -13);
        }
    }

    private static void shiftWithin() {
        edges.says("n items of a TAPE from i on come to another one (or the same) from j on, as they all were before: n.");
        for (int i = 0; i <= 5; i++) {
            for (int j = 0; j <= 5; j++) {
                for (int n = 0; n <= 5 - Math.max(i, j); n++) {
                    HatGoes x = rows();
                    due("shift(0, " + i + ", 0, " + j + ", " + n + ")", x.shift(0, i, 0, j, n), n);
                    int[] want = {1, 2, 3, 4, 5};
                    for (int k = 0; k < n; k++) {
                        want[j + k] = i + k + 1;
                    }
                    rowIs(x, 0, want);
                    rowIs(x, 1, 10, 20, 30);
                }
            }
        }
        HatGoes x = new HatGoes();
        x.tape(2, LONGS, 60);
        x.tape(3, LONGS, 60);
        for (int k = 0; k < 60; k++) {
            x.item(2, k, k * 7L - 9);
        }
        due("sixty", x.shift(2, 0, 3, 0, 60), 60);
        for (int k = 0; k < 60; k++) {
            due("item " + k, x.read(3, k), k * 7L - 9);
        }
        due("sixty-one", x.shift(2, 0, 3, 0, 61), -13);
        due("none of sixty", x.shift(2, 60, 3, 60, 0), 0);
        due("none behind sixty", x.shift(2, 61, 3, 0, 0), -13);
    }

    private static void shiftWrong() {
        edges.says("NONE: tapes; NOTHING; CAST: of unlike sorts;");
        for (int tape : Edges.outside(0, 5)) {
            edges.refused("shift(" + tape + ", 0, 0, 0, 1)", x -> x.shift(tape, 0, 0, 0, 1), -1);
            edges.refused("shift(0, 0, " + tape + ", 0, 1)", x -> x.shift(0, 0, tape, 0, 1), -1);
        }
        edges.refused("nothing there", x -> x.shift(5, 0, 0, 0, 1), -11);
        edges.refused("nothing in the other", x -> x.shift(0, 0, 5, 0, 1), -11);
        edges.refused("nothing in itself", x -> x.shift(5, 0, 5, 0, 0), -11);
        for (int sort = BYTES; sort <= BOOLEANS; sort++) {
            for (int other = BYTES; other <= BOOLEANS; other++) {
                HatGoes x = new HatGoes();
                x.tape(0, sort, 2);
                x.tape(1, other, 2);
                x.item(0, 0, 1);
                due("sort " + sort + " to " + other, x.shift(0, 0, 1, 1, 1), sort == other ? 1 : -12);
                due("none of sort " + sort + " to " + other, x.shift(0, 0, 1, 1, 0), sort == other ? 0 : -12);
                due("item 1", x.read(1, 1), sort == other ? 1 : 0);
            }
        }
    }

    private static void shiftOrder() {
        edges.says("NONE: tapes; NOTHING; CAST: of unlike sorts; PLACE: n, i or j is below 0, or beyond either's end.");
        edges.refused("the tape ahead of nothing", x -> x.shift(6, 0, 5, 0, 1), -1);
        edges.refused("the other ahead of nothing", x -> x.shift(5, 0, -1, 0, 1), -1);
        edges.refused("the tapes ahead of the places", x -> x.shift(0, -1, 6, -1, -1), -1);
        edges.refused("nothing ahead of the places", x -> x.shift(5, -1, 0, -1, -1), -11);
        edges.refused("nothing in the other ahead of the places", x -> x.shift(0, -1, 5, -1, -1), -11);
        edges.refused("unlike sorts ahead of the places", x -> x.shift(0, -1, 2, -1, -1), -12);
        edges.refused("unlike sorts ahead of an end", x -> x.shift(0, 0, 2, 0, 61), -12);
    }
}
