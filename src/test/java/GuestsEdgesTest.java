import java.io.IOException;

/** Boundary cases that the document names, of guests, facts, the hat and rows: a test for each sentence. */
public final class GuestsEdgesTest {
    private static final int GUEST = 0, LIAR = 1, SLY = 2, MILD = 3, SPITE = 4, GREEDY = 5, TOLD = 6;

    private static Edges edges;

    private static void due(String call, long got, long want) {
        edges.due(call, got, want);
    }

    public static void main(String[] args) throws IOException {
        edges = new Edges("GuestsEdgesTest");
        newObject();
        calls();
        guestsNumbers();
        guestsKinds();
        guestsV();
        guestsKnow();
        guestsFull();
        guestsOrder();
        ringToTheRight();
        ringToTheLeft();
        factsAtFirst();
        facts();
        hatAtFirst();
        hourAtFirst();
        slyByHours();
        slyKnows();
        mildRight();
        spiteLeft();
        greedyAboveFive();
        greedyByHours();
        rowAtFirst();
        rowByHours();
        alone();
        of();
        fact();
        hat();
        row();
        rowOrder();
        rowOfOthers();
        told();
        edges.end();
    }

    private static void newObject() {
        edges.says("`HatGoes()`: Nobody, no HOUSE.");
        HatGoes x = new HatGoes();
        for (int what = 0; what <= 5; what++) {
            due("count(" + what + ")", x.count(what), 0);
        }
        due("who has the hat", x.told(0), -5);
        due("far", x.told(2), 1);
        due("undo()", x.undo(), -3);
        due("the first guest's number", x.guest(0, 0, 0), 0);
        due("the first house's number", Edges.house(x, "far 2"), 0);
    }

    private static void calls() {
        edges.says("An object is used for at most 512 calls after it has been made");
        HatGoes x = new HatGoes();
        due("call 1", x.guest(TOLD, 0, 0), 0);
        due("call 2", x.row(0, 509 % 8, 1), 0);
        for (int hour = 0; hour < 509; hour++) {
            due("call " + (hour + 3), x.saying(), hour % 8 == 509 % 8 ? 1 : 0);
        }
        due("call 512", x.saying(), 1);
        x = new HatGoes();
        for (int call = 1; call <= 511; call++) {
            due("feed, call " + call, x.feed('x'), call <= 100 ? call : -4);
        }
        due("house, call 512", x.house(), -10);
        x = new HatGoes();
        for (int call = 1; call <= 512; call++) {
            due("image, call " + call, call % 2 == 1 ? x.image() : x.undo(), 0);
        }
    }

    private static void guestsNumbers() {
        edges.says("GUESTS 0 .. 6, as they come");
        HatGoes x = new HatGoes();
        due("nobody yet", x.of(0, 0), -1);
        for (int k = 0; k <= 6; k++) {
            due("guest " + k, x.guest(k, 0, 0), k);
            due("is there", x.of(k, 0), k);
            due("the next one is not", x.of(k + 1, 0), -1);
        }
    }

    private static void guestsKinds() {
        edges.says("NONE: kind; BAD: v, knows (bits 0 .. 255); FULL: 7.");
        for (int kind : Edges.outside(0, 6)) {
            edges.refused("guest(" + kind + ", 0, 0)", x -> x.guest(kind, 0, 0), -1);
            edges.still("nobody there: guest(" + kind + ", 0, 0)", HatGoes::new, x -> x.guest(kind, 0, 0), -1);
        }
        for (int kind = 0; kind <= 6; kind++) {
            HatGoes x = new HatGoes();
            due("guest(" + kind + ", 0, 0)", x.guest(kind, 0, 0), 0);
            due("its kind", x.of(0, 0), kind);
        }
    }

    private static void guestsV() {
        edges.says("with a number v (0 .. 9)");
        for (int v : Edges.outside(0, 9)) {
            edges.refused("guest(0, " + v + ", 0)", x -> x.guest(0, v, 0), -2);
        }
        for (int v = 0; v <= 9; v++) {
            HatGoes x = new HatGoes();
            due("guest(0, " + v + ", 0)", x.guest(0, v, 0), 0);
            due("its v", x.of(0, 1), v);
        }
    }

    private static void guestsKnow() {
        edges.says("FACTS (bits) that they KNOW");
        for (int knows : Edges.outside(0, 255)) {
            edges.refused("guest(0, 0, " + knows + ")", x -> x.guest(0, 0, knows), -2);
        }
        for (int knows = 0; knows <= 255; knows++) {
            HatGoes x = new HatGoes();
            due("guest(2, 0, " + knows + ")", x.guest(SLY, 0, knows), 0);
            due("it knows", x.of(0, 2), knows);
        }
    }

    private static void guestsFull() {
        edges.says("`int guest(int kind, int v, int knows)`: A GUEST: its number.");
        HatGoes x = Edges.evening();
        due("six guests are there", x.count(0), 6);
        due("the seventh", x.guest(GREEDY, 9, 255), 6);
        due("the eighth", x.guest(GUEST, 0, 0), -4);
        due("seven stay", x.count(0), 7);
        due("the seventh's kind", x.of(6, 0), GREEDY);
        for (int kind = 0; kind <= 6; kind++) {
            int each = kind;
            edges.still("the eighth", () -> Edges.alike(SPITE, 7), y -> y.guest(each, 9, 255), -4);
        }
    }

    private static void guestsOrder() {
        edges.says("the first that a call's words name");
        edges.refused("guest: kind ahead of v", x -> x.guest(7, 10, 0), -1);
        edges.refused("guest: kind ahead of knows", x -> x.guest(-1, 0, 256), -1);
        edges.still("guest: kind ahead of full", () -> Edges.alike(GUEST, 7), x -> x.guest(7, 0, 0), -1);
        edges.still("guest: v ahead of full", () -> Edges.alike(GUEST, 7), x -> x.guest(0, 10, 0), -2);
        edges.still("guest: knows ahead of full", () -> Edges.alike(GUEST, 7), x -> x.guest(0, 0, 256), -2);
    }

    private static void ringToTheRight() {
        edges.says("They sit round a table by numbers; to the right of the last sits the first.");
        for (int seats = 1; seats <= 7; seats++) {
            HatGoes x = Edges.alike(GUEST, seats);
            for (int k = 1; k <= 15; k++) {
                x.saying();
                due(k + " to the right among " + seats, x.told(0), k % seats);
            }
        }
    }

    private static void ringToTheLeft() {
        edges.says("to the right of the last sits the first");
        for (int seats = 1; seats <= 7; seats++) {
            HatGoes x = Edges.alike(LIAR, seats);
            for (int k = 1; k <= 15; k++) {
                x.saying();
                due(k + " to the left among " + seats, x.told(0), (15 * seats - k) % seats);
            }
        }
    }

    private static void factsAtFirst() {
        edges.says("FACTS 0 .. 7: each so, or not (not at first).");
        due("at first", new HatGoes().told(3), 0);
        for (int fact = 0; fact <= 7; fact++) {
            HatGoes x = new HatGoes();
            due("fact " + fact + " was", x.fact(fact, true), 0);
            due("facts that are so", x.told(3), 1 << fact);
            x = Edges.facts(new HatGoes(), 255);
            due("fact " + fact + " was", x.fact(fact, false), 1);
            due("facts that are so", x.told(3), 255 - (1 << fact));
        }
    }

    private static void facts() {
        edges.says("`int fact(int fact, boolean is)`: A FACT is so, or not: whether it was. NONE.");
        for (int fact : Edges.outside(0, 7)) {
            edges.refused("fact(" + fact + ", true)", x -> x.fact(fact, true), -1);
            edges.refused("fact(" + fact + ", false)", x -> x.fact(fact, false), -1);
        }
    }

    private static void hatAtFirst() {
        edges.says("THE HAT: with one of the GUESTS (0 at first).");
        HatGoes x = new HatGoes();
        for (int k = 0; k < 7; k++) {
            x.guest(GUEST, 0, 0);
            due("with " + (k + 1) + " guests", x.told(0), 0);
        }
        due("with whom it was", x.hat(6), 0);
        due("with the last", x.told(0), 6);
    }

    private static void hourAtFirst() {
        edges.says("HOUR: 0 at first.");
        HatGoes x = new HatGoes();
        due("nobody", x.told(1), 0);
        x.guest(GUEST, 0, 0);
        x.fact(0, true);
        x.hat(0);
        due("no saying yet", x.told(1), 0);
        x.saying();
        due("one saying", x.told(1), 1);
    }

    private static void slyByHours() {
        edges.says("SLY: 1, if it KNOWS FACT (HOUR modulo 8), and that is so, else 0.");
        for (int fact = 0; fact < 8; fact++) {
            HatGoes x = new HatGoes();
            x.guest(SLY, 0, 1 << fact);
            x.guest(SLY, 0, 255 - (1 << fact));
            Edges.facts(x, 255);
            for (int hour = 0; hour <= 24; hour++) {
                due("knows " + fact + ", hour " + hour, x.of(0, 5), hour % 8 == fact ? 1 : 0);
                due("knows all but " + fact + ", hour " + hour, x.of(1, 5), hour % 8 == fact ? 0 : 1);
                x.saying();
            }
        }
    }

    private static void slyKnows() {
        edges.says("1, if it KNOWS FACT (HOUR modulo 8), and that is so");
        int[][] cases = {{0, 0, 0}, {1, 0, 0}, {0, 1, 0}, {1, 1, 1}};
        for (int[] c : cases) {
            HatGoes x = new HatGoes();
            x.guest(SLY, 0, c[0]);
            x.fact(0, c[1] == 1);
            due("knows " + c[0] + ", is " + c[1], x.of(0, 5), c[2]);
        }
    }

    private static void mildRight() {
        edges.says("MILD: 1, if the GUEST to its right has KIND 0, 3 or 6, else 0.");
        int[] said = {1, 0, 0, 1, 0, 0, 1};
        for (int kind = 0; kind <= 6; kind++) {
            due("right has kind " + kind, Edges.round(MILD, kind, LIAR).of(0, 5), said[kind]);
            due("left has kind " + kind, Edges.round(MILD, LIAR, kind).of(0, 5), 0);
            due("right of the last has kind " + kind, Edges.round(kind, LIAR, MILD).of(2, 5), said[kind]);
            due("right of the seventh has kind " + kind,
                Edges.round(kind, LIAR, LIAR, LIAR, LIAR, LIAR, MILD).of(6, 5), said[kind]);
        }
    }

    private static void spiteLeft() {
        edges.says("SPITE: as LIAR, but 1, if the GUEST to its left has the same KIND.");
        for (int kind = 0; kind <= 6; kind++) {
            int said = kind == SPITE ? 1 : 0;
            due("left has kind " + kind, Edges.round(GUEST, kind, SPITE).of(2, 5), said);
            due("right has kind " + kind, Edges.round(GUEST, SPITE, kind).of(1, 5), 0);
            due("left of the first has kind " + kind, Edges.round(SPITE, GUEST, kind).of(0, 5), said);
            due("left of the first of seven has kind " + kind,
                Edges.round(SPITE, GUEST, GUEST, GUEST, GUEST, GUEST, kind).of(0, 5), said);
        }
    }

    private static void greedyAboveFive() {
        edges.says("GREEDY: as SLY, but the other one, if WORTH of it is above 5.");
        for (int worth = 0; worth <= 12; worth++) {
            HatGoes x = new HatGoes();
            x.guest(GREEDY, 0, 1);
            x.guest(GREEDY, 0, 2);
            x.fact(0, true);
            Edges.house(x, "worth " + worth + " g<9");
            due("knows fact 0, worth " + worth, x.of(0, 5), worth > 5 ? 0 : 1);
            due("doesn't, worth " + worth, x.of(1, 5), worth > 5 ? 1 : 0);
        }
        HatGoes x = Edges.round(GREEDY);
        due("without a house", x.of(0, 5), 0);
        Edges.house(x, "worth 3 g=0;worth 2 g=0");
        due("3 and 2", x.of(0, 5), 0);
        Edges.house(x, "worth 3 g=0;worth 3 g=0");
        due("3 and 3", x.of(0, 5), 1);
    }

    private static void greedyByHours() {
        edges.says("WORTH of a GUEST (to have THE HAT at an HOUR)");
        HatGoes x = Edges.housed(Edges.alike(GREEDY, 1), "worth 6 h=11");
        for (int hour = 0; hour <= 36; hour++) {
            due("worth at " + hour, x.of(0, 4), hour % 12 == 11 ? 6 : 0);
            due("says at " + hour, x.of(0, 5), hour % 12 == 11 ? 1 : 0);
            x.saying();
        }
    }

    private static void rowAtFirst() {
        edges.says("TOLD: its ROW (eight numbers 0, 1; 0 at first) at HOUR modulo 8.");
        HatGoes x = Edges.alike(TOLD, 7);
        for (int hour = 0; hour <= 16; hour++) {
            for (int k = 0; k < 7; k++) {
                due("guest " + k + " at " + hour, x.of(k, 5), 0);
            }
            x.saying();
        }
        for (int k = 0; k < 7; k++) {
            for (int part = 0; part < 8; part++) {
                due("row(" + k + ", " + part + ", 1) was", x.row(k, part, 1), 0);
            }
        }
    }

    private static void rowByHours() {
        edges.says("its ROW (eight numbers 0, 1; 0 at first) at HOUR modulo 8");
        for (int part = 0; part < 8; part++) {
            HatGoes x = Edges.row(Edges.alike(TOLD, 2), 1, 1 << part);
            for (int hour = 0; hour <= 24; hour++) {
                due("its own row at " + hour, x.of(1, 5), hour % 8 == part ? 1 : 0);
                due("another one's at " + hour, x.of(0, 5), 0);
                x.saying();
            }
        }
    }

    private static void alone() {
        edges.says("(Right, left are itself, if it is alone.)");
        due("mild alone", Edges.round(MILD).of(0, 5), 1);
        due("spite alone", Edges.round(SPITE).of(0, 5), 1);
        due("mild with a liar", Edges.round(MILD, LIAR).of(0, 5), 0);
        due("spite with a liar", Edges.round(SPITE, LIAR).of(0, 5), 0);
        for (int kind = 0; kind <= 6; kind++) {
            HatGoes x = Edges.round(kind);
            x.saying();
            due("the hat of kind " + kind + " alone", x.told(0), 0);
        }
    }

    private static void of() {
        edges.says("5 what it would SAY, if it had THE HAT now. NONE.");
        for (int guest : Edges.outside(0, 5)) {
            edges.refused("of(" + guest + ", 0)", x -> x.of(guest, 0), -1);
            edges.refused("of(" + guest + ", 5)", x -> x.of(guest, 5), -1);
        }
        for (int what : Edges.outside(0, 5)) {
            edges.refused("of(0, " + what + ")", x -> x.of(0, what), -1);
        }
        edges.still("nobody: of(0, 0)", HatGoes::new, x -> x.of(0, 0), -1);
        // Guest 3 is mild, told ones sit at its left and no kind 0, 3, 6 at its right; the hat is with 2.
        int[] answers = {3, 4, 1, 5, 0, 0};
        for (int what = 0; what <= 5; what++) {
            int each = what;
            edges.refused("of(3, " + what + ")", x -> x.of(3, each), answers[what]);
        }
    }

    private static void fact() {
        edges.says("What is answered so changes nothing");
        edges.refused("fact(8, false)", x -> x.fact(8, false), -1);
        edges.refused("fact(-1, true)", x -> x.fact(-1, true), -1);
        edges.refused("fact(3 + 32, false)", x -> x.fact(3 + 32, false), -1);
        edges.refused("a guest(3, 10, 0)", x -> x.guest(3, 10, 0), -2);
        edges.refused("a row(0, 0, 2)", x -> x.row(0, 0, 2), -2);
    }

    private static void hat() {
        edges.says("`int hat(int guest)`: THE HAT is with a GUEST: with whom it was. NONE.");
        for (int guest : Edges.outside(0, 5)) {
            edges.refused("hat(" + guest + ")", x -> x.hat(guest), -1);
        }
        edges.still("nobody: hat(0)", HatGoes::new, x -> x.hat(0), -1);
        edges.still("nobody: hat(-1)", HatGoes::new, x -> x.hat(-1), -1);
        HatGoes x = Edges.evening();
        due("the last has it then", x.hat(5), 2);
        due("the first has it then", x.hat(0), 5);
        due("again", x.hat(0), 0);
        x.guest(GUEST, 0, 0);
        due("the seventh", x.hat(6), 0);
        due("with the seventh", x.told(0), 6);
    }

    private static void row() {
        edges.says("`int row(int guest, int part, int n)`: The ROW of a TOLD one becomes n (0, 1) for HOURS modulo 8"
            + " being part: what it was.");
        for (int guest : Edges.outside(0, 5)) {
            edges.refused("row(" + guest + ", 0, 1)", x -> x.row(guest, 0, 1), -1);
        }
        for (int part : Edges.outside(0, 7)) {
            edges.refused("row(0, " + part + ", 1)", x -> x.row(0, part, 1), -1);
        }
        for (int n : Edges.outside(0, 1)) {
            edges.refused("row(0, 0, " + n + ")", x -> x.row(0, 0, n), -2);
            edges.refused("row(0, 7, " + n + ")", x -> x.row(0, 7, n), -2);
        }
        HatGoes x = Edges.alike(TOLD, 7);
        for (int part = 0; part <= 7; part += 7) {
            due("was", x.row(6, part, 1), 0);
            due("was", x.row(6, part, 1), 1);
            due("was", x.row(6, part, 0), 1);
            due("was", x.row(6, part, 0), 0);
        }
    }

    private static void rowOrder() {
        edges.says("NONE: guest, part; BAD; STATE: another KIND.");
        edges.refused("guest ahead of n", x -> x.row(6, 0, 2), -1);
        edges.refused("part ahead of n", x -> x.row(0, 8, 2), -1);
        edges.refused("part ahead of the kind", x -> x.row(1, 8, 1), -1);
        edges.refused("n ahead of the kind", x -> x.row(1, 0, 2), -2);
        edges.still("nobody", HatGoes::new, x -> x.row(0, 0, 1), -1);
    }

    private static void rowOfOthers() {
        edges.says("STATE: another KIND");
        for (int kind = 0; kind < TOLD; kind++) {
            int each = kind;
            edges.still("kind " + kind, () -> Edges.round(each, TOLD), x -> x.row(0, 7, 1), -3);
            edges.still("kind " + kind, () -> Edges.round(TOLD, each), x -> x.row(1, 0, 0), -3);
        }
    }

    private static void told() {
        edges.says("What 0 who has THE HAT (-5: nobody is there), 1 HOUR, 2 far, 3 FACTS that are so (bits). NONE.");
        for (int what : Edges.outside(0, 3)) {
            edges.refused("told(" + what + ")", x -> x.told(what), -1);
            edges.still("nobody: told(" + what + ")", HatGoes::new, x -> x.told(what), -1);
        }
        int[] answers = {2, 3, 3, 72};
        int[] nobody = {-5, 0, 1, 0};
        for (int what = 0; what <= 3; what++) {
            int each = what;
            edges.refused("told(" + what + ")", x -> x.told(each), answers[what]);
            edges.still("nobody: told(" + what + ")", HatGoes::new, x -> x.told(each), nobody[what]);
        }
    }
}
