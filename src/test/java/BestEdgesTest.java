import java.io.IOException;
import java.math.BigInteger;

/** Boundary cases that the document names, of what is best, two hats, odds and books: a test for each sentence. */
public final class BestEdgesTest {
    private static final int GUEST = 0, LIAR = 1, GREEDY = 5, TOLD = 6;

    private static Edges edges;

    private static void due(String call, long got, long want) {
        edges.due(call, got, want);
    }

    public static void main(String[] args) throws IOException {
        edges = new Edges("BestEdgesTest");
        hoursThatCount();
        allRows();
        bothAsGood();
        doesNotHaveIt();
        worthNothing();
        wantsWrong();
        ridWrong();
        two();
        twoLikewise();
        twoSixty();
        twoWrong();
        odds();
        oddsTenths();
        oddsLowest();
        oddsWrong();
        mean();
        meanHours();
        meanLies();
        meanLargest();
        meanWrong();
        book();
        bookTwelve();
        bookWrong();
        looked();
        lookedNone();
        lookedNobody();
        edges.end();
    }

    private static void best(HatGoes x, int guest, int n, int most, int first, int least, int firstRid) {
        due("wants(" + guest + ", " + n + ", 0)", x.wants(guest, n, 0), most);
        due("wants(" + guest + ", " + n + ", 1)", x.wants(guest, n, 1), first);
        due("rid(" + guest + ", " + n + ", 0)", x.rid(guest, n, 0), least);
        due("rid(" + guest + ", " + n + ", 1)", x.rid(guest, n, 1), firstRid);
    }

    private static void hoursThatCount() {
        edges.says("how much WORTH of it, at HOURS 0 .. n less 1 more at which it has THE HAT");
        HatGoes x = Edges.alike(GUEST, 7);
        for (int guest = 0; guest < 7; guest++) {
            best(x, guest, guest, 0, -5, 0, -5);
            best(x, guest, guest + 1, 1, 1, 1, 1);
        }
        best(x, 0, 0, 0, -5, 0, -5);
        // At hour 11, the twelfth, it is worth 40; at hour 12 (0 on the clock) 70, too late.
        Edges.house(x, "worth 40 h=11;worth 70 h=0;far 0");
        x.saying();
        best(x, 0, 10, 0, 1, 0, 1);
        best(x, 0, 11, 40, 1, 40, 1);
        best(x, 0, 12, 110, 1, 110, 1);
        HatGoes all = Edges.housed(Edges.alike(GUEST, 1), "worth 40 h=11;worth 70 h=0");
        best(all, 0, 1, 70, 1, 70, 1);
        best(all, 0, 11, 70, 1, 70, 1);
        best(all, 0, 12, 110, 1, 110, 1);
    }

    /** All that it may say at its times, row by row: {most, first of most, least, first of least}. */
    private static int[] slowBest(int[] kinds, int far, int hat, int guest, int n, int[] worths) {
        int[] most = {Integer.MIN_VALUE, Integer.MIN_VALUE};
        int[] least = {Integer.MAX_VALUE, Integer.MAX_VALUE};
        boolean has = false;
        for (int row = 0; row < 1 << n; row++) {
            int seat = hat;
            int first = -1;
            int sum = 0;
            for (int k = 0; k < n; k++) {
                int said = seat == guest ? row >> k & 1 : kinds[seat] == GUEST ? 1 : 0;
                if (seat == guest) {
                    first = first < 0 ? said : first;
                    sum += worths[k];
                }
                seat = (seat + (said == 1 ? far : far * (kinds.length - 1))) % kinds.length;
            }
            has = first >= 0;
            if (has) {
                most[first] = Math.max(most[first], sum);
                least[first] = Math.min(least[first], sum);
            }
        }
        return !has ? new int[] {0, -5, 0, -5} : new int[] {Math.max(most[0], most[1]), most[1] >= most[0] ? 1 : 0,
            Math.min(least[0], least[1]), least[1] <= least[0] ? 1 : 0};
    }

    private static void allRows() {
        edges.says("it has at most, if it SAYS whatever it likes each time, and all others as they do");
        String[] houses = {"far 1", "worth 1 h<4;worth 5 h=7;worth 2 h>8", "far 2;worth 3 h>2;worth 9 h=5|h=8", "far 3"};
        int[] fars = {1, 1, 2, 3};
        for (int kinds = 0; kinds < 128; kinds += 9) {
            int seats = kinds % 6 + 2;
            int[] kind = new int[seats];
            for (int k = 0; k < seats; k++) {
                kind[k] = (kinds >> k & 1) == 1 ? GUEST : LIAR;
            }
            for (int h = 0; h < houses.length; h++) {
                HatGoes x = Edges.housed(Edges.round(kind), houses[h]);
                int[] worths = new int[12];
                for (int k = 0; k < 12; k++) {
                    worths[k] = h == 0 || h == 3 ? 1 : h == 1 ? (k < 4 ? 1 : 0) + (k == 7 ? 5 : 0) + (k > 8 ? 2 : 0)
                        : (k > 2 ? 3 : 0) + (k == 5 || k == 8 ? 9 : 0);
                }
                for (int n = 0; n <= 12; n += n < 10 ? 3 : 1) {
                    for (int guest = 0; guest < seats; guest += 2) {
                        int[] is = slowBest(kind, fars[h], 0, guest, n, worths);
                        best(x, guest, n, is[0], is[1], is[2], is[3]);
                    }
                }
            }
        }
    }

    private static void bothAsGood() {
        edges.says("what it SAYS the first time by that (1, if both are as good; -5: it doesn't have it at these HOURS)");
        best(Edges.round(LIAR, GUEST), 0, 12, 6, 1, 6, 1);
        best(Edges.round(LIAR), 0, 12, 12, 1, 12, 1);
        best(Edges.round(LIAR, LIAR, GUEST), 0, 1, 1, 1, 1, 1);
        best(Edges.round(LIAR, LIAR, GUEST), 0, 12, 6, 1, 6, 1);
        // To the right it comes back at once, to the left it goes on round.
        best(Edges.round(LIAR, LIAR, LIAR), 0, 2, 1, 1, 1, 1);
        best(Edges.round(LIAR, LIAR, LIAR), 0, 3, 2, 1, 1, 0);
        best(Edges.round(GUEST, GUEST, GUEST), 0, 3, 2, 0, 1, 1);
    }

    private static void doesNotHaveIt() {
        edges.says("-5: it doesn't have it at these HOURS");
        best(Edges.round(GUEST, LIAR, GUEST), 2, 12, 0, -5, 0, -5);
        best(Edges.round(GUEST, LIAR, GUEST), 1, 1, 0, -5, 0, -5);
        best(Edges.round(GUEST, LIAR, GUEST), 1, 2, 1, 1, 1, 1);
        best(Edges.alike(GUEST, 7), 6, 6, 0, -5, 0, -5);
        best(Edges.alike(GUEST, 7), 6, 7, 1, 1, 1, 1);
        for (int g = 0; g < 7; g++) {
            best(Edges.alike(GUEST, 7), g, 0, 0, -5, 0, -5);
        }
    }

    private static void worthNothing() {
        edges.says("RID: the same for the least.");
        HatGoes x = Edges.housed(Edges.alike(LIAR, 3), "worth 0 g=0");
        best(x, 0, 12, 0, 1, 0, 1);
        best(x, 2, 12, 0, 1, 0, 1);
        best(x, 2, 1, 0, -5, 0, -5);
        // Greedy ones say as they like when it is theirs, whatever they would have said.
        HatGoes y = Edges.housed(Edges.round(GREEDY, LIAR, LIAR, LIAR), "worth 9 g=0");
        best(y, 0, 3, 18, 1, 9, 0);
        HatGoes told = Edges.alike(TOLD, 4);
        best(told, 0, 3, 2, 1, 1, 0);
    }

    private static void wantsWrong() {
        edges.says("`int wants(int guest, int n, int what)`: WANTS: what 0 how much, 1 what it SAYS first (-5). -1001:"
            + " NONE; -1002: BAD: n.");
        for (int guest : Edges.outside(0, 5)) {
            edges.refused("wants(" + guest + ", 12, 0)", x -> x.wants(guest, 12, 0), -1001);
            edges.refused("the guest ahead of n", x -> x.wants(guest, 13, 1), -1001);
        }
        for (int what : Edges.outside(0, 1)) {
            edges.refused("wants(0, 12, " + what + ")", x -> x.wants(0, 12, what), -1001);
            edges.refused("what ahead of n", x -> x.wants(0, -1, what), -1001);
        }
        for (int n : Edges.outside(0, 12)) {
            edges.refused("wants(0, " + n + ", 0)", x -> x.wants(0, n, 0), -1002);
            edges.refused("wants(5, " + n + ", 1)", x -> x.wants(5, n, 1), -1002);
        }
        edges.still("nobody", HatGoes::new, x -> x.wants(0, 0, 0), -1001);
    }

    private static void ridWrong() {
        edges.says("`int rid(int guest, int n, int what)`: RID likewise.");
        for (int guest : Edges.outside(0, 5)) {
            edges.refused("rid(" + guest + ", 12, 0)", x -> x.rid(guest, 12, 0), -1001);
            edges.refused("the guest ahead of n", x -> x.rid(guest, 13, 1), -1001);
        }
        for (int what : Edges.outside(0, 1)) {
            edges.refused("rid(0, 12, " + what + ")", x -> x.rid(0, 12, what), -1001);
            edges.refused("what ahead of n", x -> x.rid(0, -1, what), -1001);
        }
        for (int n : Edges.outside(0, 12)) {
            edges.refused("rid(0, " + n + ", 0)", x -> x.rid(0, n, 0), -1002);
            edges.refused("rid(5, " + n + ", 1)", x -> x.rid(5, n, 1), -1002);
        }
        edges.still("nobody", HatGoes::new, x -> x.rid(0, 0, 0), -1001);
    }

    private static void two() {
        edges.says("behind how many HOURS (0 .. 60) both are with the same one at first (-5: not by then)");
        HatGoes x = Edges.round(GUEST, GUEST, GUEST, LIAR, LIAR, LIAR, LIAR);
        due("they are with one now", x.two(0), 0);
        due("they meet half way", x.two(4), 2);
        due("they pass one another", x.two(5), -5);
        due("one to the right all along", Edges.alike(GUEST, 7).two(6), -5);
        due("they stay", Edges.housed(Edges.alike(GUEST, 7), "far 0").two(1), -5);
        HatGoes pair = Edges.round(GUEST, LIAR);
        due("a pair", pair.two(1), -5);
        due("with one", pair.two(0), 0);
        due("alone", Edges.round(LIAR).two(0), 0);
    }

    private static void twoLikewise() {
        edges.says("TWO HATS: a second one is with some GUEST now, and goes likewise");
        // Both go far, both hear the house's hour, and each is told by who has it.
        due("far 2 to the right, both", Edges.housed(Edges.alike(GUEST, 7), "far 2").two(3), -5);
        due("far 2 to the right and left", Edges.housed(Edges.round(GUEST, GUEST, GUEST, GUEST, LIAR, LIAR, LIAR),
            "far 2").two(4), 1);
        // Guest 3 gives either hat to the left, but at hour 9 the first one to the right: it comes round to 2 then.
        due("by a row, at hour 9", Edges.row(Edges.round(GUEST, GUEST, GUEST, TOLD, GUEST), 3, 0b10).two(3), 13);
        due("at the same hour", Edges.housed(Edges.round(GREEDY, LIAR, LIAR, LIAR), "worth 6 h=0").two(2), 1);
        HatGoes x = Edges.round(GUEST, GUEST, GUEST, LIAR, LIAR, LIAR, LIAR);
        x.saying();
        due("from where the first is now", x.two(3), 1);
        due("the second is no other than before", x.two(4), -5);
        due("the first did not go", x.told(0), 1);
    }

    private static HatGoes slowPair() {
        int[] kinds = {LIAR, LIAR, GREEDY, LIAR, LIAR, GREEDY, GREEDY};
        int[] knows = {14, 177, 93, 37, 20, 120, 57};
        HatGoes x = new HatGoes();
        for (int k = 0; k < 7; k++) {
            x.guest(kinds[k], 0, knows[k]);
        }
        Edges.facts(x, 24);
        return Edges.housed(x, "worth 9 h=5");
    }

    private static void twoSixty() {
        edges.says("behind how many HOURS (0 .. 60)");
        due("behind 60", slowPair().two(1), 60);
        due("behind 60", slowPair().two(2), 60);
        HatGoes x = Edges.says(slowPair(), 1);
        due("behind 59", x.two(0), 59);
        // All goes round in 24 hours, and at hour 23 guest 1 gives it to 0, guest 2 to 1: so 61 from there.
        x = Edges.says(slowPair(), 23);
        x.hat(1);
        due("behind 61", x.two(2), -5);
    }

    private static void twoWrong() {
        edges.says("`int two(int guest)`: TWO HATS; -5. NONE.");
        for (int guest : Edges.outside(0, 5)) {
            edges.refused("two(" + guest + ")", x -> x.two(guest), -1);
        }
        edges.still("nobody", HatGoes::new, x -> x.two(0), -1);
        due("the last of seven", Edges.alike(GUEST, 7).two(6), -5);
    }

    private static void oddsAre(HatGoes x, int guest, int n, long above, long below) {
        due("odds(" + guest + ", " + n + ", 0)", x.odds(guest, n, 0), above);
        due("odds(" + guest + ", " + n + ", 1)", x.odds(guest, n, 1), below);
    }

    /** How likely each one has it, of 10 to the n, by all rows of n truths and lies. */
    private static BigInteger[] slowOdds(int[] lies, int far, int n) {
        int seats = lies.length;
        BigInteger[] has = new BigInteger[seats];
        java.util.Arrays.fill(has, BigInteger.ZERO);
        for (int row = 0; row < 1 << n; row++) {
            BigInteger likely = BigInteger.ONE;
            int seat = 0;
            for (int k = 0; k < n; k++) {
                boolean lie = (row >> k & 1) == 1;
                likely = likely.multiply(BigInteger.valueOf(lie ? lies[seat] : 10 - lies[seat]));
                seat = (seat + (lie ? far * (seats - 1) : far)) % seats;
            }
            has[seat] = has[seat].add(likely);
        }
        return has;
    }

    private static void odds() {
        edges.says("ODDS of n SAYINGS (0 .. 12) for a GUEST: if each lies as often as LIES tells: how likely it has THE"
            + " HAT then: a fraction in lowest terms.");
        // 5 7 9 10 6 5 5 of ten.
        int[] lies = {5, 7, 9, 10, 6, 5, 5};
        for (int far = 0; far <= 3; far++) {
            HatGoes x = Edges.housed(Edges.alike(LIAR, 7), "lies 2 g=1;lies 4 g=2;lies 9 g=3;lies 1 g=4;far " + far);
            for (int n = 0; n <= 12; n += 1) {
                BigInteger[] has = slowOdds(lies, far, n);
                BigInteger below = BigInteger.TEN.pow(n);
                for (int g = 0; g < 7; g++) {
                    BigInteger common = has[g].gcd(below);
                    oddsAre(x, g, n, has[g].divide(common).longValue(), below.divide(common).longValue());
                }
            }
        }
    }

    private static void oddsTenths() {
        edges.says("of ten how often it lies when it may say what it likes");
        HatGoes x = Edges.alike(GUEST, 7);
        oddsAre(x, 1, 1, 1, 2);
        Edges.house(x, "lies 4 g=0");
        oddsAre(x, 1, 1, 1, 10);
        oddsAre(x, 6, 1, 9, 10);
        Edges.house(x, "lies 5 g=0");
        oddsAre(x, 1, 1, 0, 1);
        oddsAre(x, 6, 1, 1, 1);
        Edges.house(x, "lies 6 g=0");
        oddsAre(x, 1, 1, 0, 1);
        oddsAre(x, 6, 1, 1, 1);
        Edges.house(x, "lies 4 h<1&g<1");
        oddsAre(x, 0, 2, 1, 2);
        oddsAre(x, 5, 2, 9, 20);
        // What is lied at hour 1 counts for the second saying.
        Edges.house(x, "lies 5 h=1");
        oddsAre(x, 5, 2, 1, 2);
        oddsAre(x, 0, 2, 1, 2);
        oddsAre(x, 2, 2, 0, 1);
    }

    private static void oddsLowest() {
        edges.says("how likely it has THE HAT then: a fraction in lowest terms");
        HatGoes x = Edges.alike(GUEST, 7);
        oddsAre(x, 0, 0, 1, 1);
        oddsAre(x, 1, 0, 0, 1);
        oddsAre(x, 0, 1, 0, 1);
        oddsAre(x, 0, 2, 1, 2);
        oddsAre(x, 2, 2, 1, 4);
        oddsAre(Edges.alike(GUEST, 1), 0, 12, 1, 1);
        oddsAre(Edges.alike(GUEST, 2), 0, 12, 1, 1);
        oddsAre(Edges.alike(GUEST, 2), 1, 12, 0, 1);
        // All lies 9 of ten: twelve to the left are five to the left of seven, as are twelve and no others.
        HatGoes nine = Edges.housed(Edges.alike(GUEST, 7), "lies 4 g<9");
        BigInteger[] has = slowOdds(new int[] {9, 9, 9, 9, 9, 9, 9}, 1, 12);
        edges.holds("nothing to cut", has[2].gcd(BigInteger.TEN).equals(BigInteger.ONE));
        oddsAre(nine, 2, 12, has[2].longValue(), 1000000000000L);
    }

    private static void oddsWrong() {
        edges.says("`long odds(int guest, int n, int part)`: ODDS; part 0 above, 1 below the line. NO.");
        for (int guest : Edges.outside(0, 5)) {
            edges.refused("odds(" + guest + ", 0, 0)", x -> x.odds(guest, 0, 0), HatGoes.NO);
        }
        for (int n : Edges.outside(0, 12)) {
            edges.refused("odds(0, " + n + ", 0)", x -> x.odds(0, n, 0), HatGoes.NO);
        }
        for (int part : Edges.outside(0, 1)) {
            edges.refused("odds(0, 12, " + part + ")", x -> x.odds(0, 12, part), HatGoes.NO);
        }
        edges.still("nobody", HatGoes::new, x -> x.odds(0, 0, 0), HatGoes.NO);
        edges.still("nobody", HatGoes::new, x -> x.odds(0, 0, 1), HatGoes.NO);
    }

    private static void meanIs(HatGoes x, int n, long above, long below) {
        due("mean(" + n + ", 0)", x.mean(n, 0), above);
        due("mean(" + n + ", 1)", x.mean(n, 1), below);
    }

    private static void mean() {
        edges.says("MEAN of n: if they lie so: the mean of what WORTH those that have THE HAT at HOURS 0 .. n less 1 more"
            + " have of it, together: a fraction in lowest terms.");
        int[] lies = {5, 7, 9, 10, 6, 5, 5};
        int[] worths = {3, 0, 4, 9, 1, 0, 0};
        HatGoes x = Edges.housed(Edges.alike(LIAR, 7), "lies 2 g=1;lies 4 g=2;lies 9 g=3;lies 1 g=4;worth 3 g=0;worth 4"
            + " g=2;worth 9 g=3;worth 1 g=4");
        for (int n = 0; n <= 12; n++) {
            BigInteger above = BigInteger.ZERO;
            BigInteger below = BigInteger.TEN.pow(12);
            for (int k = 0; k < n; k++) {
                BigInteger[] has = slowOdds(lies, 1, k);
                for (int g = 0; g < 7; g++) {
                    BigInteger part = has[g].multiply(BigInteger.valueOf(worths[g]));
                    above = above.add(part.multiply(BigInteger.TEN.pow(12 - k)));
                }
            }
            BigInteger common = above.gcd(below);
            meanIs(x, n, above.divide(common).longValue(), below.divide(common).longValue());
        }
    }

    private static void meanHours() {
        edges.says("at HOURS 0 .. n less 1 more have of it");
        HatGoes x = Edges.alike(GUEST, 1);
        for (int n = 0; n <= 12; n++) {
            meanIs(x, n, n, 1);
        }
        Edges.house(x, "worth 40 h=11;worth 70 h=0;worth 2 h=5");
        meanIs(x, 0, 0, 1);
        meanIs(x, 1, 70, 1);
        meanIs(x, 5, 70, 1);
        meanIs(x, 6, 72, 1);
        meanIs(x, 11, 72, 1);
        meanIs(x, 12, 112, 1);
        x.saying();
        meanIs(x, 11, 42, 1);
        meanIs(x, 12, 112, 1);
    }

    private static void meanLies() {
        edges.says("MEAN of n: if they lie so: the mean of what WORTH");
        // At hour 1 all lie for sure, else every other time; guest 0 alone is worth 4.
        HatGoes x = Edges.housed(Edges.alike(GUEST, 3), "worth 4 g=0;lies 5 h=1");
        meanIs(x, 2, 4, 1);
        meanIs(x, 3, 6, 1);
        x.saying();
        x.hat(0);
        // At hour 1 to guest 2 for sure, from there to 0 or 1.
        meanIs(x, 2, 4, 1);
        meanIs(x, 3, 6, 1);
        Edges.house(x, "worth 4 g=2;lies 5 h=1");
        meanIs(x, 2, 4, 1);
        x.saying();
        x.hat(0);
        meanIs(x, 2, 2, 1);
    }

    private static void meanLargest() {
        edges.says("MEAN of n: if they lie so");
        // Nine tenths and one tenth over and over, and much worth: the largest numbers that can come of it.
        HatGoes x = Edges.housed(Edges.alike(GUEST, 7), "lies 4 g<9;worth 99 g<9;worth 99 g<9;worth 99 g<9;worth 99 g<9;"
            + "worth 99 g<9;worth 99 g=3");
        BigInteger above = BigInteger.ZERO;
        for (int k = 0; k < 12; k++) {
            BigInteger[] has = slowOdds(new int[] {9, 9, 9, 9, 9, 9, 9}, 1, k);
            for (int g = 0; g < 7; g++) {
                BigInteger part = has[g].multiply(BigInteger.valueOf(g == 3 ? 594 : 495));
                above = above.add(part.multiply(BigInteger.TEN.pow(11 - k)));
            }
        }
        BigInteger below = BigInteger.TEN.pow(11);
        BigInteger common = above.gcd(below);
        meanIs(x, 12, above.divide(common).longValue(), below.divide(common).longValue());
    }

    private static void meanWrong() {
        edges.says("`long mean(int n, int part)`: MEAN; part likewise. NO: n (0 .. 12), part, nobody.");
        for (int n : Edges.outside(0, 12)) {
            edges.refused("mean(" + n + ", 0)", x -> x.mean(n, 0), HatGoes.NO);
        }
        for (int part : Edges.outside(0, 1)) {
            edges.refused("mean(12, " + part + ")", x -> x.mean(12, part), HatGoes.NO);
            edges.refused("mean(0, " + part + ")", x -> x.mean(0, part), HatGoes.NO);
        }
        edges.still("nobody", HatGoes::new, x -> x.mean(0, 0), HatGoes.NO);
        edges.still("nobody", HatGoes::new, x -> x.mean(12, 1), HatGoes.NO);
    }

    private static void book() {
        edges.says("`int book(int said)`: What was SAID comes to the BOOK: how many there are (-1: it is empty then, 0)."
            + " BAD; FULL: 12.");
        HatGoes x = new HatGoes();
        due("none at first", x.count(3), 0);
        due("empty then", x.book(-1), 0);
        for (int k = 1; k <= 12; k++) {
            due("said " + k, x.book(k % 2), k);
            due("how many", x.count(3), k);
        }
        due("a thirteenth", x.book(0), -4);
        due("a thirteenth", x.book(1), -4);
        due("twelve stay", x.count(3), 12);
        due("empty then", x.book(-1), 0);
        due("none", x.count(3), 0);
        due("the first again", x.book(1), 1);
    }

    private static HatGoes twelve() {
        HatGoes x = Edges.alike(GUEST, 3);
        for (int k = 0; k < 12; k++) {
            x.book(k < 11 ? 1 : 0);
        }
        return x;
    }

    private static void bookTwelve() {
        edges.says("one behind the other (12 at most)");
        edges.still("a thirteenth", BestEdgesTest::twelve, x -> x.book(0), -4);
        edges.still("a thirteenth", BestEdgesTest::twelve, x -> x.book(1), -4);
        HatGoes x = twelve();
        due("the last is otherwise", x.looked(), 11);
        x.book(1);
        due("and stays so", x.looked(), 11);
    }

    private static void bookWrong() {
        edges.says("(-1: it is empty then, 0). BAD; FULL: 12.");
        for (int said : Edges.outside(-1, 1)) {
            edges.refused("book(" + said + ")", x -> x.book(said), -2);
            edges.still("bad ahead of full", BestEdgesTest::twelve, x -> x.book(said), -2);
            edges.still("nobody", HatGoes::new, x -> x.book(said), -2);
        }
    }

    private static void looked() {
        edges.says("LOOKED at: the first that is otherwise than what is SAID then (-5: none).");
        for (int wrong = 0; wrong < 12; wrong++) {
            // Guest 0 says 1, guest 1 says 0: 1 0 1 0 ..; all behind the first wrong one are wrong, too.
            HatGoes x = Edges.round(GUEST, LIAR, GUEST);
            for (int k = 0; k < 12; k++) {
                x.book(k < wrong ? (k + 1) % 2 : k % 2);
                due((k + 1) + " said, wrong from " + wrong, x.looked(), k < wrong ? -5 : wrong);
            }
        }
        HatGoes x = Edges.row(Edges.alike(TOLD, 2), 0, 0b10000100);
        Edges.house(x, "far 2");
        for (int k = 0; k < 12; k++) {
            x.book(k == 2 || k == 7 || k == 10 ? 1 : 0);
        }
        due("by hours", x.looked(), -5);
        x.saying();
        due("from now on", x.looked(), 1);
    }

    private static void lookedNone() {
        edges.says("(-5: none)");
        due("an empty book", Edges.alike(GUEST, 1).looked(), -5);
        HatGoes x = Edges.alike(GUEST, 1);
        for (int k = 1; k <= 12; k++) {
            x.book(1);
            due("all of " + k, x.looked(), -5);
        }
        x.book(-1);
        due("an empty book again", x.looked(), -5);
        x.book(0);
        due("the first", x.looked(), 0);
    }

    private static void lookedNobody() {
        edges.says("`int looked()`: LOOKED at; -5. STATE: nobody is there.");
        edges.still("nobody, no book", HatGoes::new, HatGoes::looked, -3);
        HatGoes x = new HatGoes();
        x.book(1);
        due("nobody, a book", x.looked(), -3);
        x.image();
        x.guest(GUEST, 0, 0);
        due("somebody", x.looked(), -5);
        x.undo();
        due("nobody again", x.looked(), -3);
    }
}
