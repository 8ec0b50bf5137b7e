/** Promises 1 to 9: a new object, guests, facts, the hat, rows, texts and houses. */
public final class GuestsTest {
    private static final Check CHECK = new Check("GuestsTest");

    private static void due(String call, long got, long want) {
        CHECK.due(call, got, want);
    }

    public static void main(String[] args) {
        newObject();
        guest();
        guestsFull();
        of();
        says();
        alone();
        fact();
        hat();
        row();
        feed();
        house();
        houseBehindFaults();
        faults();
        deepest();
        clausesAndHousesFull();
        lies();
        worth();
        tests();
        joins();
        told();
        CHECK.end();
    }

    private static void newObject() {
        HatGoes x = new HatGoes();
        for (int what = 0; what <= 5; what++) {
            due("new count(" + what + ")", x.count(what), 0);
        }
        due("new told(0)", x.told(0), -5);
        due("new told(1)", x.told(1), 0);
        due("new told(2)", x.told(2), 1);
        due("new told(3)", x.told(3), 0);
        due("new undo()", x.undo(), HatGoes.STATE);
        due("new of(0, 0)", x.of(0, 0), HatGoes.NONE);
        due("new read(0, 0)", x.read(0, 0), HatGoes.NO);
        due("new trace(0)", x.trace(0), HatGoes.NONE);
    }

    private static void guest() {
        HatGoes x = new HatGoes();
        due("kind below", x.guest(-1, 0, 0), HatGoes.NONE);
        due("kind above", x.guest(7, 0, 0), HatGoes.NONE);
        due("kind ahead of v", x.guest(7, -1, 0), HatGoes.NONE);
        due("v below", x.guest(0, -1, 0), HatGoes.BAD);
        due("v above", x.guest(0, 10, 0), HatGoes.BAD);
        due("knows below", x.guest(0, 0, -1), HatGoes.BAD);
        due("knows above", x.guest(0, 0, 256), HatGoes.BAD);
        due("none came", x.count(0), 0);
        for (int kind = 0; kind < 7; kind++) {
            due("kind " + kind, x.guest(kind, kind + 3, 255 - kind), kind);
        }
        for (int kind = 0; kind < 7; kind++) {
            due("of 0", x.of(kind, 0), kind);
            due("of 1", x.of(kind, 1), kind + 3);
            due("of 2", x.of(kind, 2), 255 - kind);
        }
    }

    private static void guestsFull() {
        HatGoes x = new HatGoes();
        for (int k = 0; k < 7; k++) {
            due("guest " + k, x.guest(6, 0, 0), k);
        }
        due("kind ahead of full", x.guest(7, 0, 0), HatGoes.NONE);
        due("bad ahead of full", x.guest(0, 10, 0), HatGoes.BAD);
        due("full", x.guest(0, 0, 0), HatGoes.FULL);
        due("seven", x.count(0), 7);
    }

    private static void of() {
        HatGoes x = new HatGoes();
        x.guest(2, 9, 5);
        due("guest below", x.of(-1, 0), HatGoes.NONE);
        due("guest above", x.of(1, 0), HatGoes.NONE);
        due("what below", x.of(0, -1), HatGoes.NONE);
        due("what above", x.of(0, 6), HatGoes.NONE);
        due("lies without a house", x.of(0, 3), 5);
        due("worth without a house", x.of(0, 4), 1);
        due("says", x.of(0, 5), 0);
        x.fact(0, true);
        due("says what is so and known", x.of(0, 5), 1);
    }

    private static void says() {
        HatGoes x = CHECK.round(0, 1, 3, 3, 3, 6, 3);
        due("guest", x.of(0, 5), 1);
        due("liar", x.of(1, 5), 0);
        due("mild beside mild", x.of(2, 5), 1);
        due("mild beside told", x.of(4, 5), 1);
        due("told", x.of(5, 5), 0);
        due("the last mild beside the first guest", x.of(6, 5), 1);
        x = CHECK.round(3, 1, 3, 2, 3, 4, 3);
        due("mild beside liar", x.of(0, 5), 0);
        due("mild beside sly", x.of(2, 5), 0);
        due("mild beside spite", x.of(4, 5), 0);
        due("the last mild beside the first mild", x.of(6, 5), 1);
        x = CHECK.round(3, 5);
        due("mild beside greedy", x.of(0, 5), 0);
        x = CHECK.round(4, 1, 4, 4, 4, 0, 4);
        due("the first spite beside the last", x.of(0, 5), 1);
        due("spite beside liar", x.of(2, 5), 0);
        due("spite beside spite", x.of(3, 5), 1);
        due("spite beside spite again", x.of(4, 5), 1);
        due("spite beside guest", x.of(6, 5), 0);
        slyByHours();
        toldByHours();
    }

    private static void slyByHours() {
        HatGoes x = new HatGoes();
        x.guest(2, 0, 0b10100110);
        x.guest(5, 0, 0b10100110);
        x.guest(5, 9, 0b10100110);
        CHECK.house(x, "worth 6 v=9;worth 5 v<9", 0);
        for (int fact = 0; fact < 8; fact++) {
            x.fact(fact, fact % 3 != 0);
        }
        int[] said = {0, 1, 1, 0, 0, 1, 0, 1};
        for (int hour = 0; hour < 20; hour++) {
            due("sly at " + hour, x.of(0, 5), said[hour % 8]);
            due("greedy of little worth at " + hour, x.of(1, 5), said[hour % 8]);
            due("greedy of much worth at " + hour, x.of(2, 5), 1 - said[hour % 8]);
            x.saying();
        }
    }

    private static void toldByHours() {
        HatGoes x = CHECK.round(6);
        int[] row = {1, 0, 0, 1, 1, 0, 1, 0};
        for (int part = 0; part < 8; part++) {
            due("row", x.row(0, part, row[part]), 0);
        }
        for (int hour = 0; hour < 20; hour++) {
            due("told at " + hour, x.of(0, 5), row[hour % 8]);
            due("said at " + hour, x.saying(), row[hour % 8]);
        }
    }

    private static void alone() {
        due("mild alone", CHECK.round(3).of(0, 5), 1);
        due("spite alone", CHECK.round(4).of(0, 5), 1);
    }

    private static void fact() {
        HatGoes x = new HatGoes();
        due("below", x.fact(-1, true), HatGoes.NONE);
        due("above", x.fact(8, true), HatGoes.NONE);
        due("nothing so", x.told(3), 0);
        for (int fact = 0; fact < 8; fact++) {
            due("was not", x.fact(fact, true), 0);
            due("bits", x.told(3), (1 << fact + 1) - 1);
        }
        due("was", x.fact(3, true), 1);
        due("was", x.fact(3, false), 1);
        due("was not", x.fact(3, false), 0);
        due("bits", x.told(3), 255 - 8);
    }

    private static void hat() {
        HatGoes x = new HatGoes();
        due("nobody", x.hat(0), HatGoes.NONE);
        x.guest(0, 0, 0);
        x.guest(0, 0, 0);
        due("at first", x.hat(1), 0);
        due("then", x.hat(0), 1);
        due("below", x.hat(-1), HatGoes.NONE);
        due("above", x.hat(2), HatGoes.NONE);
        due("still", x.told(0), 0);
    }

    private static void row() {
        HatGoes x = CHECK.round(6, 3, 6);
        due("guest below", x.row(-1, 0, 1), HatGoes.NONE);
        due("guest above", x.row(3, 0, 1), HatGoes.NONE);
        due("part below", x.row(0, -1, 1), HatGoes.NONE);
        due("part above", x.row(0, 8, 1), HatGoes.NONE);
        due("none ahead of bad", x.row(0, 8, 2), HatGoes.NONE);
        due("n below", x.row(0, 0, -1), HatGoes.BAD);
        due("n above", x.row(0, 0, 2), HatGoes.BAD);
        due("bad ahead of state", x.row(1, 0, 2), HatGoes.BAD);
        due("mild", x.row(1, 0, 1), HatGoes.STATE);
        due("was 0", x.row(0, 7, 1), 0);
        due("was 1", x.row(0, 7, 1), 1);
        due("was 1", x.row(0, 7, 0), 1);
        due("was 0", x.row(0, 7, 0), 0);
        due("another one's own", x.row(2, 7, 1), 0);
        due("the first one's", x.row(0, 7, 0), 0);
        for (int kind = 0; kind < 6; kind++) {
            due("kind " + kind, CHECK.round(kind).row(0, 0, 1), HatGoes.STATE);
        }
    }

    private static void feed() {
        HatGoes x = new HatGoes();
        due("below", x.feed(-1), HatGoes.BAD);
        due("above", x.feed(128), HatGoes.BAD);
        due("none came", x.count(4), 0);
        due("the first", x.feed(0), 1);
        for (int k = 2; k <= 100; k++) {
            due("sign " + k, x.feed(127), k);
        }
        due("full", x.feed(32), HatGoes.FULL);
        due("bad ahead of full", x.feed(128), HatGoes.BAD);
        due("a hundred", x.count(4), 100);
        due("fault of the first sign", x.house(), -10);
        due("empty then", x.count(4), 0);
        due("one again", x.feed(32), 1);
    }

    private static void house() {
        HatGoes x = CHECK.round(0, 0, 0, 0, 0);
        CHECK.house(x, "far 2", 0);
        due("far", x.told(2), 2);
        due("text is empty", x.count(4), 0);
        due("houses", x.count(1), 1);
        CHECK.house(x, "far 3x", -15);
        due("the one that held holds", x.told(2), 2);
        due("text is empty", x.count(4), 0);
        due("houses", x.count(1), 1);
        CHECK.house(x, "far 03;far 99;worth 0 g=0", 1);
        due("the last far", x.told(2), 99);
        CHECK.house(x, "lies 1 g=0", 2);
        due("no far in the newest", x.told(2), 1);
        due("worth is of the newest", x.of(0, 4), 1);
    }

    /** What a text with a fault said must not stay for the next one. */
    private static void houseBehindFaults() {
        HatGoes x = CHECK.round(0, 0);
        CHECK.house(x, "far 5;worth 9 g=0|g=1;lies 3 g=0;", -10 - 33);
        CHECK.house(x, "lies 1 g=1", 0);
        due("far", x.told(2), 1);
        due("worth", x.of(0, 4), 1);
        due("lies of 0", x.of(0, 3), 5);
        due("lies of 1", x.of(1, 3), 6);
        String manyClauses = "lies 1 g=1;".repeat(9);
        String manyTests = "worth 1 " + "g=0|".repeat(22);
        for (int k = 0; k < 6; k++) {
            CHECK.house(x, manyClauses, -10 - 99);
            CHECK.house(x, manyTests, -10 - 96);
        }
        CHECK.house(x, "lies 1 g=0;".repeat(8) + "lies 2 g=1", 1);
        due("lies of 0", x.of(0, 3), 10);
        due("lies of 1", x.of(1, 3), 7);
    }

    private static void fault(String text, int place) {
        HatGoes x = new HatGoes();
        CHECK.house(x, text, -10 - place);
        due("no house of " + text, x.count(1), 0);
        due("no text of " + text, x.count(4), 0);
    }

    private static void faults() {
        fault("", 0);
        fault(";", 0);
        fault("x", 0);
        fault(" far 1", 0);
        fault("f", 1);
        fault("fa", 2);
        fault("fare 1", 3);
        fault("far", 3);
        fault("far ", 4);
        fault("far  1", 4);
        fault("far a", 4);
        fault("far -1", 4);
        fault("far 1 ", 5);
        fault("far 12 ", 6);
        fault("far 123", 6);
        fault("far 1 g=1", 5);
        fault("far 1;", 6);
        fault("far 1;;", 6);
        fault("far 1; far 2", 6);
        fault("far 1,far 2", 5);
        fault("lie 1 g=1", 3);
        fault("lies1 g=1", 4);
        fault("lies g=1", 5);
        fault("lies 1", 6);
        fault("lies 1g=1", 6);
        fault("lies 1;", 6);
        fault("lies 123 g=1", 7);
        fault("lies 1 ", 7);
        fault("lies 1  g=1", 7);
        fault("lies 1 q=1", 7);
        fault("lies 1 G=1", 7);
        fault("lies 1 g", 8);
        fault("lies 1 g ", 8);
        fault("lies 1 g!1", 8);
        fault("lies 1 g=", 9);
        fault("lies 1 g==1", 9);
        fault("lies 1 g=x", 9);
        fault("lies 1 g=123", 11);
        fault("lies 1 g=1 ", 10);
        fault("lies 1 g=1)", 10);
        fault("lies 1 g=1&", 11);
        fault("lies 1 g=1&&g=1", 11);
        fault("lies 1 g=1|", 11);
        fault("lies 1 g=1||g=1", 11);
        fault("lies 1 g=1|;far 1", 11);
        fault("lies 1 (g=1", 11);
        fault("lies 1 (g=1;far 1", 11);
        fault("lies 1 ()", 8);
        fault("lies 1 (g=1))", 12);
        fault("lies 1 !", 8);
        fault("lies 1 !&", 8);
        fault("worth 1 g=1(", 11);
        fault("worht 1 g=1", 3);
        fault("worth\0", 5);
        fault("worth 1 g=1;wor", 15);
    }

    private static void deepest() {
        CHECK.house(new HatGoes(), "lies 1 ((((g=1))))", 0);
        CHECK.house(new HatGoes(), "lies 1 !!!!g=1", 0);
        CHECK.house(new HatGoes(), "lies 1 !(!(g=1))&!(!(g=1)|((g=1)))", 0);
        fault("lies 1 (((((g=1)))))", 11);
        fault("lies 1 !!!!!g=1", 11);
        fault("lies 1 !(!((g=1)))", 11);
        fault("lies 1 ((((!g=1))))", 11);
        fault("lies 1 (g=1|((g=1&(!g=1))))", 19);
        fault("lies 1 !!(g=1&!!g=1)", 15);
        // As many side by side as one likes: none is within another.
        CHECK.house(new HatGoes(), "lies 1 !g=1&!g=1&!g=1&!g=1&!g=1|(g=1)|(g=1)|(g=1)|(g=1)|(g=1)", 0);
    }

    private static void clausesAndHousesFull() {
        String ten = "far 0;far 1;far 2;far 3;far 4;far 5;far 6;far 7;far 8;far 9";
        HatGoes x = new HatGoes();
        CHECK.house(x, ten, 0);
        due("far", x.told(2), 9);
        CHECK.house(x, ten + ";", -10 - 59);
        CHECK.house(x, ten + ";far 1", -10 - 59);
        for (int k = 1; k < 6; k++) {
            CHECK.house(x, "far " + k, k);
        }
        CHECK.house(x, "far 77", HatGoes.FULL);
        due("the text stays", x.count(4), 6);
        CHECK.holds("far of the sixth", x.told(2) == 5);
        due("one more sign", x.feed('!'), 7);
        due("full ahead of a fault", x.house(), HatGoes.FULL);
        due("houses", x.count(1), 6);
        String longest = "lies 1 " + "g=12|".repeat(18) + "g=1";
        CHECK.holds("a hundred signs", longest.length() == 100);
        HatGoes y = CHECK.round(0, 0);
        CHECK.house(y, longest, 0);
        due("its lies", y.of(1, 3), 6);
        due("no lies", y.of(0, 3), 5);
    }

    private static void lies() {
        HatGoes x = CHECK.round(0, 1, 2, 3);
        CHECK.house(x, "lies 1 g<3;lies 2 g<2;lies 2 g<1;worth 7 g=3;lies 0 g=3", 0);
        due("all", x.of(0, 3), 10);
        due("two", x.of(1, 3), 8);
        due("one", x.of(2, 3), 6);
        due("none of them", x.of(3, 3), 5);
        CHECK.house(x, "lies 99 g=0;lies 99 g=0;lies 6 g=1;lies 4 g=2", 1);
        due("ten at most", x.of(0, 3), 10);
        due("ten at most", x.of(1, 3), 10);
        due("nine", x.of(2, 3), 9);
    }

    private static void worth() {
        HatGoes x = CHECK.round(0, 1, 2);
        CHECK.house(x, "worth 30 g>0;worth 12 g=2;worth 0 g=1", 0);
        due("none of them", x.of(0, 4), 0);
        due("one", x.of(1, 4), 30);
        due("both", x.of(2, 4), 42);
        CHECK.house(x, "worth 99 g=0;worth 99 g<1;worth 99 g<2", 1);
        due("no end to it", x.of(0, 4), 297);
    }

    private static void test(String e, int... so) {
        HatGoes x = new HatGoes();
        x.guest(0, 3, 0);
        x.guest(5, 9, 255);
        x.guest(2, 0, 0b101);
        x.fact(1, true);
        x.fact(6, true);
        CHECK.house(x, "worth 1 " + e, 0);
        for (int k = 0; k < 3; k++) {
            due(e + " of " + k, x.of(k, 4), so[k]);
        }
    }

    private static void tests() {
        test("g<1", 1, 0, 0);
        test("g=1", 0, 1, 0);
        test("g>1", 0, 0, 1);
        test("g=01", 0, 1, 0);
        test("g<10", 1, 1, 1);
        test("k=0", 1, 0, 0);
        test("k=5", 0, 1, 0);
        test("k>1", 0, 1, 1);
        test("v=3", 1, 0, 0);
        test("v>2", 1, 1, 0);
        test("v<9", 1, 0, 1);
        test("n=8", 0, 1, 0);
        test("n=2", 0, 0, 1);
        test("n<1", 1, 0, 0);
        test("s=2", 1, 1, 1);
        test("s<2", 0, 0, 0);
        test("s>2", 0, 0, 0);
        test("h=0", 1, 1, 1);
        HatGoes x = CHECK.round(0);
        CHECK.house(x, "worth 1 h=0;worth 2 h>10;lies 1 h=3", 0);
        for (int hour = 0; hour < 30; hour++) {
            int h = hour % 12;
            due("worth at " + hour, x.of(0, 4), h == 0 ? 1 : h == 11 ? 2 : 0);
            due("lies at " + hour, x.of(0, 3), h == 3 ? 6 : 5);
            x.saying();
        }
    }

    private static void joins() {
        test("!g=1", 1, 0, 1);
        test("!!g=1", 0, 1, 0);
        test("g=0|g=2", 1, 0, 1);
        test("g<2&g>0", 0, 1, 0);
        test("g=0|g>0&g>1", 1, 0, 1);
        test("g>0&g>1|g=0", 1, 0, 1);
        test("(g=0|g>0)&g>1", 0, 0, 1);
        test("!g=0&g<2", 0, 1, 0);
        test("!(g=0&g<2)", 0, 1, 1);
        test("!(g=0|g=2)|g=0", 1, 1, 0);
        test("g=0|g=1|g=2", 1, 1, 1);
        test("g<3&g<2&g<1", 1, 0, 0);
        test("g=0|(g<2&(g=2|(g>0&(v=9))))", 1, 1, 0);
        test("g=0|!(g<2|!(g=3|v<9))", 1, 0, 1);
    }

    private static void told() {
        HatGoes x = new HatGoes();
        due("below", x.told(-1), HatGoes.NONE);
        due("above", x.told(4), HatGoes.NONE);
        due("nobody", x.told(0), -5);
        x.guest(0, 0, 0);
        x.guest(0, 0, 0);
        due("who has it", x.told(0), 0);
        x.saying();
        due("who has it then", x.told(0), 1);
        due("hour", x.told(1), 1);
        x.fact(7, true);
        due("facts", x.told(3), 128);
    }
}
