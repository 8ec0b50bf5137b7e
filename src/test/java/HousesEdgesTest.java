import java.io.IOException;
import java.util.Set;

/** Boundary cases that the document names, of texts and houses: a test for each sentence. */
public final class HousesEdgesTest {
    private static final String DIGITS = "0123456789";
    private static final String LETTERS = "gkvhns";
    private static final String TEN = "far 0;far 1;far 2;far 3;far 4;far 5;far 6;far 7;far 8;far 9";

    private static Edges edges;

    private static void due(String call, long got, long want) {
        edges.due(call, got, want);
    }

    public static void main(String[] args) throws IOException {
        edges = new Edges("HousesEdgesTest");
        textFull();
        feedSigns();
        feedOrder();
        hundred();
        hundredTooEarly();
        noClause();
        tenClauses();
        between();
        words();
        blanks();
        blanksElsewhere();
        digits();
        manyTs();
        manyFs();
        notBindsFirst();
        inBrackets();
        letters();
        relations();
        numbersOfTests();
        hoursOfTests();
        knownOfTests();
        soOfTests();
        deepest();
        besideOneAnother();
        firstFault();
        endsTooEarly();
        newestHolds();
        sixHouses();
        full();
        faultKeeps();
        faultLeavesNothing();
        textIsEmptyThen();
        noHouse();
        lies();
        worth();
        far();
        edges.end();
    }

    private static void textFull() {
        edges.says("`int feed(int sign)`: A sign (0 .. 127) comes behind THE TEXT's: how many it has. BAD; FULL.");
        HatGoes x = new HatGoes();
        for (int k = 1; k <= 100; k++) {
            due("sign " + k, x.feed(k), k);
        }
        due("sign 101", x.feed(1), -4);
        due("a hundred stay", x.count(4), 100);
        edges.still("sign 101", () -> Edges.feed(new HatGoes(), "x".repeat(100)), y -> y.feed('f'), -4);
    }

    private static void feedSigns() {
        edges.says("A sign (0 .. 127) comes behind THE TEXT's");
        for (int sign : Edges.outside(0, 127)) {
            edges.refused("feed(" + sign + ")", x -> x.feed(sign), -2);
        }
        for (int sign = 0; sign <= 127; sign++) {
            due("feed(" + sign + ")", new HatGoes().feed(sign), 1);
        }
    }

    private static void feedOrder() {
        edges.says("BAD (-2) a number is not as told");
        edges.still("feed(128) of a full text", () -> Edges.feed(new HatGoes(), "x".repeat(100)), y -> y.feed(128), -2);
        edges.still("feed(-1) of a full text", () -> Edges.feed(new HatGoes(), "x".repeat(100)), y -> y.feed(-1), -2);
    }

    private static void hundred() {
        edges.says("A HOUSE is read from THE TEXT (bytes, 100 at most)");
        String text = "worth 9 " + "g=99|".repeat(15) + "g=01;far 14;far 1";
        edges.holds("a hundred signs", text.length() == 100);
        HatGoes x = Edges.feed(Edges.alike(0, 7), text);
        due("one more", x.feed('7'), -4);
        due("house", x.house(), 0);
        due("far", x.told(2), 1);
        for (int g = 0; g < 7; g++) {
            due("worth of " + g, x.of(g, 4), g == 1 ? 9 : 0);
        }
    }

    private static void hundredTooEarly() {
        edges.says("(the end of THE TEXT, if it ends too early)");
        String text = "lies 1 " + "g=12|".repeat(17) + "g=1|g=1|";
        edges.holds("a hundred signs", text.length() == 100);
        due("ends too early at 100", Edges.house(text), -110);
        due("ends too early at 99", Edges.house(text.substring(0, 99)), 0);
        due("an empty text", new HatGoes().house(), -10);
    }

    private static void noClause() {
        edges.says("CLAUSES, 1 to 10, with ; between");
        due("no clause", Edges.house(""), -10);
        due("none ahead of ;", Edges.house(";"), -10);
        due("none ahead of ;", Edges.house(";far 1"), -10);
        due("none behind ;", Edges.house("far 1;"), -16);
        due("none between", Edges.house("far 1;;far 1"), -16);
        due("one", Edges.house("far 1"), 0);
    }

    private static void tenClauses() {
        edges.says("CLAUSES, 1 to 10");
        String[] clauses = {"far 1", "lies 1 g=1", "worth 1 g=1"};
        for (String clause : clauses) {
            for (int n = 1; n <= 12 && (clause.length() + 1) * n <= 100; n++) {
                String text = (clause + ";").repeat(n);
                String whole = text.substring(0, text.length() - 1);
                int tenth = 10 * (clause.length() + 1) - 1;
                due(n + " of " + clause, Edges.house(whole), n <= 10 ? 0 : -10 - tenth);
                due(n + " of " + clause + " and ;", Edges.house(text), -10 - (n < 10 ? text.length() : tenth));
            }
        }
        HatGoes x = Edges.housed(Edges.alike(0, 2), "lies 1 g=0;lies 1 g=0;lies 1 g=0;lies 1 g=0;far 1;far 1;far 1;"
            + "far 1;far 1;far 8");
        due("all ten hold: far", x.told(2), 8);
        due("all ten hold: lies", x.of(0, 3), 9);
        x = Edges.housed(Edges.alike(0, 2), "far 1;far 1;far 1;far 1;far 1;far 1;far 1;far 1;far 8;worth 7 g=1");
        due("the tenth holds", x.of(1, 4), 7);
    }

    private static void between() {
        edges.says("with ; between");
        due("nothing between", Edges.house("far 1far 1"), -15);
        due("a blank between", Edges.house("far 1 far 1"), -15);
        due(", between", Edges.house("lies 1 g=1,far 1"), -20);
        due("two between", Edges.house("lies 1 g=1;;far 1"), -21);
        due("one between", Edges.house("lies 1 g=1;far 1"), 0);
        due("in brackets", Edges.house("lies 1 (g=1;far 1"), -21);
    }

    private static void words() {
        edges.says("lies n E; worth n E; far n");
        String[] words = {"lies 1 g=1", "worth 1 g=1", "far 1"};
        for (String word : words) {
            int signs = word.indexOf(' ');
            due(word, Edges.house(word), 0);
            for (int k = 0; k < signs; k++) {
                due(word + " until " + k, Edges.house(word.substring(0, k)), -10 - k);
                due(word + " without " + k, Edges.house(word.substring(0, k) + word.substring(k + 1)), -10 - k);
                due(word + " with A at " + k, Edges.house(word.substring(0, k) + "A" + word.substring(k + 1)), -10 - k);
            }
            due(word + " doubled", Edges.house(word.substring(0, signs) + word), -10 - signs);
        }
        due("lies without E", Edges.house("lies 1"), -16);
        due("worth without E", Edges.house("worth 1"), -17);
        due("far with E", Edges.house("far 1 g=1"), -15);
        due("capitals", Edges.house("FAR 1"), -10);
    }

    private static void blanks() {
        edges.says("(one blank ahead of each part behind the word; n 1 or 2 digits)");
        String[] texts = {"lies 1 g=1", "worth 12 g=1", "far 1"};
        for (String text : texts) {
            for (int at = text.indexOf(' '); at >= 0; at = text.indexOf(' ', at + 1)) {
                String ahead = text.substring(0, at);
                String behind = text.substring(at + 1);
                due(text + " none at " + at, Edges.house(ahead + behind), -10 - at);
                due(text + " two at " + at, Edges.house(ahead + "  " + behind), -10 - at - 1);
                due(text + " a tab at " + at, Edges.house(ahead + "\t" + behind), -10 - at);
                due(text + " a 0 at " + at, Edges.house(ahead + "\0" + behind), -10 - at);
            }
        }
    }

    private static void blanksElsewhere() {
        edges.says("one blank ahead of each part behind the word");
        String text = "lies 1 !(g=1&k<2)|v>3;far 1";
        int[] blanks = {4, 6, 25};
        due(text, Edges.house(text), 0);
        for (int at = 0; at <= text.length(); at++) {
            boolean besideOne = at == blanks[0] || at == blanks[1] || at == blanks[2];
            String more = text.substring(0, at) + " " + text.substring(at);
            due("one more blank at " + at, Edges.house(more), -10 - (besideOne ? at + 1 : at));
        }
    }

    private static void digits() {
        edges.says("n 1 or 2 digits");
        String[] words = {"lies", "worth", "far"};
        for (String word : words) {
            String e = word.equals("far") ? "" : " g=0";
            int at = word.length() + 1;
            due(word + " and no digit", Edges.house(word + " " + e), -10 - at);
            due(word + " and no digit", Edges.house(word + " -1" + e), -10 - at);
            due(word + " and /", Edges.house(word + " /" + e), -10 - at);
            due(word + " and :", Edges.house(word + " :" + e), -10 - at);
            due(word + " and /", Edges.house(word + " 1/" + e), -10 - at - 1);
            due(word + " and :", Edges.house(word + " 1:" + e), -10 - at - 1);
            for (int n = 0; n <= 99; n++) {
                due(word + " " + n, Edges.house(word + " " + n + e), 0);
                due(word + " " + n + " of two", Edges.house(word + " " + n / 10 + n % 10 + e), 0);
                due(word + " and three digits", Edges.house(word + " " + n / 10 + n % 10 + "0" + e), -10 - at - 2);
            }
        }
        HatGoes x = Edges.housed(Edges.alike(0, 1), "worth 09 g=0;far 07");
        due("09", x.of(0, 4), 9);
        due("07", x.told(2), 7);
        x = Edges.housed(Edges.alike(0, 1), "worth 99 g=0;far 99");
        due("99", x.of(0, 4), 99);
        due("99", x.told(2), 99);
        x = Edges.housed(Edges.alike(0, 1), "worth 00 g=0;far 00");
        due("00", x.of(0, 4), 0);
        due("00", x.told(2), 0);
    }

    /** For which of seven guests an E holds, as bits. */
    private static int holdsFor(HatGoes x, String e) {
        due("worth 1 " + e + " is a house", Math.min(Edges.house(x, "worth 1 " + e), 0), 0);
        int guests = 0;
        for (int g = 0; g < x.count(0); g++) {
            guests |= x.of(g, 4) << g;
        }
        return guests;
    }

    private static int holdsFor(String e) {
        return holdsFor(Edges.alike(0, 7), e);
    }

    private static void manyTs() {
        edges.says("E: T or T|E.");
        due("one", holdsFor("g=3"), 0b0001000);
        due("two", holdsFor("g=3|g=5"), 0b0101000);
        due("many", holdsFor("g=0|g=1|g=2|g=3|g=4|g=5|g=6|g=7|g=8|g=9|g=0|g=1|g=2|g=3|g=4|g=5|g=6"), 0b1111111);
        due("the last of many", holdsFor("g=9|".repeat(22) + "g=6"), 0b1000000);
        due("the first of many", holdsFor("g=6" + "|g=9".repeat(22)), 0b1000000);
        due("none ahead of |", Edges.house("lies 1 |g=1"), -17);
        due("none behind |", Edges.house("lies 1 g=1|"), -21);
        due("none between", Edges.house("lies 1 g=1||g=1"), -21);
    }

    private static void manyFs() {
        edges.says("T: F or F&T.");
        due("one", holdsFor("g<3"), 0b0000111);
        due("two", holdsFor("g<3&g>1"), 0b0000100);
        due("all of many", holdsFor("g<9&".repeat(22) + "g=6"), 0b1000000);
        due("all but the first of many", holdsFor("g=9" + "&g<9".repeat(22)), 0);
        due("all but the last of many", holdsFor("g<9&".repeat(22) + "g=9"), 0);
        due("& ahead of | at the left", holdsFor("g=0&g=1|g=2"), 0b0000100);
        due("& ahead of | at the right", holdsFor("g=2|g=0&g=1"), 0b0000100);
        due("none ahead of &", Edges.house("lies 1 &g=1"), -17);
        due("none behind &", Edges.house("lies 1 g=1&"), -21);
        due("none between", Edges.house("lies 1 g=1&&g=1"), -21);
        due("none between", Edges.house("lies 1 g=1&|g=1"), -21);
    }

    private static void notBindsFirst() {
        edges.says("F: !F, (E), or a TEST");
        due("! of one alone", holdsFor("!g=0|g=0"), 0b1111111);
        due("! ahead of &", holdsFor("!g=0&g<2"), 0b0000010);
        due("! of what is in brackets", holdsFor("!(g=0|g=1)"), 0b1111100);
        due("! of !", holdsFor("!!g=4"), 0b0010000);
        due("! of ! of !", holdsFor("!!!g=4"), 0b1101111);
        due("! behind &", holdsFor("g<4&!g=0"), 0b0001110);
        due("none behind !", Edges.house("lies 1 !"), -18);
        due("none behind !", Edges.house("lies 1 !|g=1"), -18);
        due("a word behind !", Edges.house("lies 1 !lies"), -18);
    }

    private static void inBrackets() {
        edges.says("F: !F, (E)");
        due("one", holdsFor("(g=4)"), 0b0010000);
        due("| ahead of &", holdsFor("(g=0|g=5)&g>1"), 0b0100000);
        due("| ahead of &", holdsFor("g>1&(g=0|g=5)"), 0b0100000);
        due("nothing in them", Edges.house("lies 1 ()"), -18);
        due("not shut", Edges.house("lies 1 (g=1"), -21);
        due("shut twice", Edges.house("lies 1 (g=1))"), -22);
        due("not opened", Edges.house("lies 1 g=1)"), -20);
        due("shut too early", Edges.house("lies 1 (g=1|)"), -22);
        due("over the end of a clause", Edges.house("lies 1 (g=1;lies 1 g=1)"), -21);
    }

    private static void letters() {
        edges.says("a letter, < or = or >, a number (1 or 2 digits)");
        sweep("lies 1 ", LETTERS + "(!");
        sweep("lies 1 g", "<=>");
        sweep("lies 1 g=", DIGITS);
        sweep("lies 1 g=1", DIGITS + "&|;");
        sweep("lies 1 g=12", "&|;");
        sweep("lies 1 (g=1", DIGITS + "&|)");
        sweep("lies 1 (g=12", "&|)");
        sweep("lies 1 g=1&", LETTERS + "(!");
        sweep("lies 1 g=1|", LETTERS + "(!");
        for (int k = 0; k < LETTERS.length(); k++) {
            due("a number missing", Edges.house("lies 1 " + LETTERS.charAt(k) + "<"), -19);
            due("of no digits", Edges.house("lies 1 " + LETTERS.charAt(k) + "<g"), -19);
            due("of three", Edges.house("lies 1 " + LETTERS.charAt(k) + "<123"), -21);
        }
    }

    private static void relations() {
        edges.says("< or = or >");
        for (int n = 0; n <= 9; n++) {
            HatGoes x = new HatGoes();
            x.guest(0, n, 0);
            due("v<" + n, holdsFor(x, "v<" + n), 0);
            due("v=" + n, holdsFor(x, "v=" + n), 1);
            due("v>" + n, holdsFor(x, "v>" + n), 0);
            due("v<" + (n + 1), holdsFor(x, "v<" + (n + 1)), 1);
            due("v=" + (n + 1), holdsFor(x, "v=" + (n + 1)), 0);
            due("v>" + (n + 1), holdsFor(x, "v>" + (n + 1)), 0);
            x = new HatGoes();
            x.guest(0, n, 0);
            int less = Math.max(n - 1, 0);
            due("v<" + less, holdsFor(x, "v<" + less), 0);
            due("v=" + less, holdsFor(x, "v=" + less), n == 0 ? 1 : 0);
            due("v>" + less, holdsFor(x, "v>" + less), n == 0 ? 0 : 1);
        }
    }

    private static void numbersOfTests() {
        edges.says("a number (1 or 2 digits): of a GUEST g the number, k the KIND, v the number v");
        for (int n = 0; n <= 6; n++) {
            due("g=" + n, holdsFor("g=" + n), 1 << n);
            due("g<0" + n, holdsFor("g<0" + n), (1 << n) - 1);
            HatGoes x = new HatGoes();
            for (int g = 0; g < 7; g++) {
                x.guest(6 - g, (g + 3) % 7, 0);
            }
            due("k=" + n, holdsFor(x, "k=" + n), 1 << 6 - n);
            due("v=" + n, holdsFor(x, "v=" + n), 1 << (n + 4) % 7);
        }
        due("g<99", holdsFor("g<99"), 0b1111111);
        due("g>99", holdsFor("g>99"), 0);
        due("g>0", holdsFor("g>0"), 0b1111110);
        due("g<0", holdsFor("g<0"), 0);
        due("g<10", holdsFor("g<10"), 0b1111111);
        due("g>06", holdsFor("g>06"), 0);
        due("g>05", holdsFor("g>05"), 0b1000000);
    }

    private static void hoursOfTests() {
        edges.says("h HOUR modulo 12");
        for (int n = 0; n <= 12; n++) {
            HatGoes x = Edges.housed(Edges.alike(0, 1), "worth 1 h=" + n + ";lies 1 h<" + n);
            for (int hour = 0; hour <= 37; hour++) {
                due("h=" + n + " at " + hour, x.of(0, 4), hour % 12 == n ? 1 : 0);
                due("h<" + n + " at " + hour, x.of(0, 3), hour % 12 < n ? 6 : 5);
                x.saying();
            }
        }
    }

    private static void knownOfTests() {
        edges.says("n how many FACTS it KNOWS");
        int[] knows = {0, 1, 128, 129, 0b1010101, 0b11111110, 255};
        int[] many = {0, 1, 1, 2, 4, 7, 8};
        for (int k = 0; k < knows.length; k++) {
            for (int n = 0; n <= 9; n++) {
                HatGoes x = new HatGoes();
                x.guest(0, 0, knows[k]);
                Edges.facts(x, n * 28 % 256);
                due("n=" + n + " knowing " + knows[k], holdsFor(x, "n=" + n), n == many[k] ? 1 : 0);
                due("n>" + n + " knowing " + knows[k], holdsFor(x, "n>" + n), many[k] > n ? 1 : 0);
            }
        }
    }

    private static void soOfTests() {
        edges.says("s how many FACTS are so");
        int[] so = {0, 1, 128, 129, 0b1010101, 0b11111110, 255};
        int[] many = {0, 1, 1, 2, 4, 7, 8};
        for (int k = 0; k < so.length; k++) {
            for (int n = 0; n <= 9; n++) {
                HatGoes x = new HatGoes();
                x.guest(0, 0, n * 28 % 256);
                Edges.facts(x, so[k]);
                due("s=" + n + " with " + so[k], holdsFor(x, "s=" + n), n == many[k] ? 1 : 0);
                due("s<" + n + " with " + so[k], holdsFor(x, "s<" + n), many[k] < n ? 1 : 0);
            }
        }
    }

    private static String nested(int signs, int deep) {
        StringBuilder e = new StringBuilder();
        for (int k = 0; k < deep; k++) {
            e.append((signs >> k & 1) == 1 ? '(' : '!');
        }
        return e.toString();
    }

    private static void deepest() {
        edges.says("A ( or ! within 4 others is none.");
        for (int signs = 0; signs < 16; signs++) {
            String open = nested(signs, 4);
            String shut = ")".repeat(Integer.bitCount(signs));
            due("four: " + open, Edges.house("lies 1 " + open + "g=1" + shut), 0);
            due("four behind &: " + open, Edges.house("lies 1 g=1&" + open + "g=1" + shut + "|g=1"), 0);
            sweep("lies 1 " + open, LETTERS);
            sweep("lies 1 g=1|" + open, LETTERS);
            sweep("lies 1 " + nested(signs, 3), LETTERS + "(!");
            due("five: " + open + "(", Edges.house("lies 1 " + open + "(g=1)" + shut), -21);
            due("five: " + open + "!", Edges.house("lies 1 " + open + "!g=1" + shut), -21);
        }
    }

    private static void besideOneAnother() {
        edges.says("within 4 others");
        due("many beside one another", Edges.house("lies 1 " + "(g=1)&".repeat(15) + "g=1"), 0);
        due("many beside one another", Edges.house("lies 1 " + "!g=1|".repeat(18) + "g=1"), 0);
        due("four, and four again", Edges.house("lies 1 ((((g=1))))&((((g=1))))|!!!!g=1&(!(!g=1))"), 0);
        due("four, shut to three, four", Edges.house("lies 1 ((((g=1)|(g=1))|!!g=1))"), 0);
        due("four, shut to three, five", Edges.house("lies 1 ((((g=1)|(!g=1))))"), -27);
        due("! ends behind its own F", Edges.house("lies 1 (((!g=1&!g=1)))"), 0);
        due("! ends behind its own F", Edges.house("lies 1 (((!(g=1)&!(g=1))))"), -21);
        due("in the second clause anew", Edges.house("lies 1 ((((g=1))));worth 1 ((((g=1))))"), 0);
        due("in the second clause too", Edges.house("lies 1 ((((g=1))));worth 1 ((((!g=1))))"), -10 - 31);
    }

    /** Behind what has begun well: every sign but these is the fault, and none of these. */
    private static void sweep(String begun, String signs) {
        for (char sign = 0; sign <= 127; sign++) {
            int answer = Edges.house(begun + sign);
            boolean goesOn = signs.indexOf(sign) >= 0;
            String call = "sign " + (int) sign + " behind " + begun;
            if (goesOn) {
                edges.holds(call + " answered " + answer, answer == 0 || answer == -10 - begun.length() - 1);
            } else {
                due(call, answer, -10 - begun.length());
                due(call + " and more", Edges.house(begun + sign + "far 1"), -10 - begun.length());
            }
        }
    }

    private static void firstFault() {
        edges.says("The FAULT: the place of the first byte with which none begins so");
        sweep("", "lwf");
        String[] words = {"lies ", "worth ", "far "};
        for (String word : words) {
            for (int k = 1; k < word.length(); k++) {
                sweep(word.substring(0, k), word.substring(k, k + 1));
                sweep("far 1;" + word.substring(0, k), word.substring(k, k + 1));
            }
            sweep(word, DIGITS);
            sweep(word + "1", DIGITS + (word.equals("far ") ? ";" : " "));
            sweep(word + "12", word.equals("far ") ? ";" : " ");
        }
        sweep("worth 1 ", LETTERS + "(!");
        sweep("far 1;", "lwf");
        sweep("lies 1 g=1;", "lwf");
        sweep("lies 1 (g=1)", "&|;");
        sweep("lies 1 ((g=1)", "&|)");
        sweep("lies 1 !g=1", DIGITS + "&|;");
        sweep(TEN, DIGITS);
        sweep(TEN + "9", "");
        due("the first of two", Edges.house("lies 1 g=1x;far y"), -20);
        due("the first of two", Edges.house("x" + "y".repeat(99)), -10);
        due("at 99", Edges.house("lies 1 " + "g=12|".repeat(18) + "g=?"), -10 - 99);
    }

    private static void endsTooEarly() {
        edges.says("the end of THE TEXT, if it ends too early");
        String text = "lies 12 !(g=1|k<22)&v>3;worth 0 h=11;far 99";
        Set<Integer> whole = Set.of(19, 23, 35, 36, 42, 43);
        for (int end = 0; end <= text.length(); end++) {
            due("until " + end, Edges.house(text.substring(0, end)), whole.contains(end) ? 0 : -10 - end);
        }
    }

    private static void newestHolds() {
        edges.says("The newest HOUSE holds (6 at most); without one there are no CLAUSES.");
        HatGoes x = Edges.alike(0, 7);
        due("no clauses", x.told(2), 1);
        for (int k = 0; k < 6; k++) {
            due("house " + k, Edges.house(x, "worth " + (k + 2) + " g=" + k), k);
            for (int g = 0; g < 7; g++) {
                due("guest " + g + " in house " + k, x.of(g, 4), g == k ? k + 2 : 0);
            }
        }
    }

    private static HatGoes six() {
        HatGoes x = Edges.alike(0, 7);
        for (int k = 0; k < 6; k++) {
            Edges.house(x, "far " + k + ";lies 1 g=" + k);
        }
        return x;
    }

    private static void sixHouses() {
        edges.says("FULL: there are 6 (THE TEXT stays)");
        HatGoes x = six();
        due("six", x.count(1), 6);
        due("the seventh", Edges.house(x, "far 9"), -4);
        due("six", x.count(1), 6);
        due("the text stays", x.count(4), 5);
        due("and goes on", x.feed('9'), 6);
        due("the seventh again", x.house(), -4);
        due("the sixth holds", x.told(2), 5);
        due("the sixth holds", x.of(5, 3), 6);
        for (int k = 7; k <= 100; k++) {
            due("the text goes on", x.feed('9'), k);
        }
        due("until it is full", x.feed('9'), -4);
        due("full too", x.house(), -4);
        due("a hundred stay", x.count(4), 100);
    }

    private static void full() {
        edges.says("FULL: there are 6");
        edges.still("house() of a good text", () -> Edges.feed(six(), "far 9"), HatGoes::house, -4);
        edges.still("house() of a fault", () -> Edges.feed(six(), "x"), HatGoes::house, -4);
        edges.still("house() of no text", HousesEdgesTest::six, HatGoes::house, -4);
        HatGoes x = new HatGoes();
        for (int k = 0; k < 20; k++) {
            due("a fault", Edges.house(x, "far " + k + "x"), k < 10 ? -15 : -16);
        }
        for (int k = 0; k < 6; k++) {
            due("a fault takes no place", Edges.house(x, "far " + k), k);
        }
        due("six alone do", Edges.house(x, "far 9"), -4);
    }

    private static void faultKeeps() {
        edges.says("-10 less the FAULT (the one that held holds)");
        HatGoes x = Edges.alike(0, 3);
        due("a fault, none held", Edges.house(x, "far 3;worth 2 g=0;lies 5 g=1;"), -10 - 29);
        due("none holds", x.told(2), 1);
        due("none holds", x.of(0, 4), 1);
        due("none holds", x.of(1, 3), 5);
        Edges.house(x, "far 4;worth 3 g=1");
        due("a fault, one held", Edges.house(x, "far 3;worth 2 g=0;lies 5 g=1;"), -10 - 29);
        due("it holds", x.told(2), 4);
        due("it holds", x.of(1, 4), 3);
        due("it holds", x.of(0, 4), 0);
        due("no other house", x.count(1), 1);
        due("a fault at 0", x.house(), -10);
        due("it holds", x.told(2), 4);
    }

    private static void faultLeavesNothing() {
        edges.says("The newest HOUSE holds");
        HatGoes x = Edges.alike(0, 2);
        due("a fault", Edges.house(x, "far 5;worth 9 g<9;lies 3 g<9;"), -10 - 29);
        due("a house", Edges.house(x, "lies 1 g=1"), 0);
        due("no far of the fault", x.told(2), 1);
        due("no worth of the fault", x.of(0, 4), 1);
        due("no lies of the fault", x.of(0, 3), 5);
        due("its own lies", x.of(1, 3), 6);
        String clauses = "lies 1 g=1;".repeat(9);
        due("many clauses and a fault", Edges.house(x, clauses), -10 - 99);
        for (int k = 0; k < 2; k++) {
            String tests = "worth 1 " + "g=0|".repeat(22);
            due("many tests and a fault", Edges.house(x, tests), -10 - 96);
        }
        due("a house", Edges.house(x, "lies 4 g=0;worth 3 g=1"), 1);
        due("its own lies", x.of(0, 3), 9);
        due("its own lies", x.of(1, 3), 5);
        due("its own worth", x.of(0, 4), 0);
        due("its own worth", x.of(1, 4), 3);
        // More steps of texts with faults than one house has room for.
        HatGoes y = Edges.alike(0, 2);
        for (int k = 0; k < 4; k++) {
            due("many tests and a fault", Edges.house(y, "worth 1 " + "g=0|".repeat(22)), -10 - 96);
        }
        due("a house", Edges.house(y, "worth 3 g=1"), 0);
        due("its own worth", y.of(0, 4), 0);
        due("its own worth", y.of(1, 4), 3);
    }

    private static void textIsEmptyThen() {
        edges.says("`int house()`: THE TEXT, which is empty then, is a HOUSE, and holds: its number.");
        HatGoes x = new HatGoes();
        due("its number", Edges.house(x, "far 2"), 0);
        due("empty then", x.count(4), 0);
        due("nothing of it is left", x.house(), -10);
        due("a fault", Edges.house(x, "far 3;"), -16);
        due("empty then", x.count(4), 0);
        due("nothing of it is left", x.house(), -10);
        due("the next one's number", Edges.house(x, "far 3"), 1);
        due("a shorter one", Edges.house(x, "far"), -13);
    }

    private static void noHouse() {
        edges.says("without one there are no CLAUSES");
        HatGoes x = Edges.alike(5, 3);
        due("far", x.told(2), 1);
        for (int g = 0; g < 3; g++) {
            due("lies", x.of(g, 3), 5);
            due("worth", x.of(g, 4), 1);
            due("greedy says", x.of(g, 5), 0);
        }
    }

    private static void liesAre(String text, int... lies) {
        HatGoes x = Edges.alike(0, 3);
        due(text, Edges.house(x, text), 0);
        for (int g = 0; g < 3; g++) {
            due(text + " of " + g, x.of(g, 3), lies[g]);
        }
    }

    private static void lies() {
        edges.says("5, and the n of all lies whose E holds, together, 10 at most.");
        liesAre("far 1", 5, 5, 5);
        liesAre("worth 3 g=0", 5, 5, 5);
        liesAre("lies 0 g<9", 5, 5, 5);
        liesAre("lies 4 g=0;lies 5 g=1;lies 6 g=2", 9, 10, 10);
        liesAre("lies 1 g<3;lies 1 g<2;lies 1 g<1", 8, 7, 6);
        liesAre("lies 2 g<3;lies 2 g<2;lies 2 g<1", 10, 9, 7);
        liesAre("lies 99 g=0;lies 99 g<2", 10, 10, 5);
        liesAre("lies 99 g<9;".repeat(7) + "lies 1 g=0", 10, 10, 10);
        liesAre("lies 3 g=0&g=1", 5, 5, 5);
        liesAre("far 1;far 1;far 1;far 1;far 1;far 1;far 1;far 1;far 1;lies 3 g=1", 5, 8, 5);
    }

    private static void worthsAre(String text, int... worths) {
        HatGoes x = Edges.alike(0, 3);
        due(text, Edges.house(x, text), 0);
        for (int g = 0; g < 3; g++) {
            due(text + " of " + g, x.of(g, 4), worths[g]);
        }
    }

    private static void worth() {
        edges.says("the n of all worth whose E holds, together (1, if there are no worth CLAUSES at all).");
        worthsAre("far 3", 1, 1, 1);
        worthsAre("lies 3 g=0", 1, 1, 1);
        worthsAre("worth 0 g=0", 0, 0, 0);
        worthsAre("worth 3 g=9", 0, 0, 0);
        worthsAre("worth 1 g=0", 1, 0, 0);
        worthsAre("far 1;far 1;far 1;far 1;far 1;far 1;far 1;far 1;far 1;worth 3 g=1", 0, 3, 0);
        worthsAre("worth 3 g=1;far 1;far 1;far 1;far 1;far 1;far 1;far 1;far 1;far 1", 0, 3, 0);
        worthsAre("worth 9 g<1;worth 8 g<2;lies 5 g<3;worth 7 g<3", 24, 15, 7);
        worthsAre("worth 99 g<1;".repeat(7) + "far 1", 693, 0, 0);
    }

    private static void far() {
        edges.says("far (1 without): the last one's n.");
        due("without", Edges.housed(new HatGoes(), "lies 1 g=1").told(2), 1);
        due("0", Edges.housed(new HatGoes(), "far 0").told(2), 0);
        due("99", Edges.housed(new HatGoes(), "far 99").told(2), 99);
        due("the last of two", Edges.housed(new HatGoes(), "far 3;far 2").told(2), 2);
        due("the last of ten", Edges.housed(new HatGoes(), TEN).told(2), 9);
        due("the last of them ahead of others", Edges.housed(new HatGoes(), "far 3;far 4;lies 1 g=1").told(2), 4);
        due("the first of them is the last", Edges.housed(new HatGoes(), "far 6;lies 1 g=1;worth 1 g=1").told(2), 6);
        HatGoes x = Edges.housed(new HatGoes(), "far 6");
        Edges.house(x, "lies 1 g=1");
        due("without in the newest", x.told(2), 1);
    }
}
