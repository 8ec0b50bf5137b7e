/** Promises 18 to 24: what is best, two hats, odds, means, books. */
public final class BestTest {
    private static final Check CHECK = new Check("BestTest");

    private static void due(String call, long got, long want) {
        CHECK.due(call, got, want);
    }

    public static void main(String[] args) {
        wrong();
        wantsAndRid();
        bothAsGood();
        byHours();
        othersAsTheyDo();
        two();
        twoBehindSixty();
        odds();
        mean();
        book();
        looked();
        CHECK.end();
    }

    private static void wrong() {
        HatGoes x = new HatGoes();
        due("nobody wants", x.wants(0, 0, 0), -1001);
        due("nobody to be rid", x.rid(0, 0, 0), -1001);
        x.guest(0, 0, 0);
        int[][] calls = {{-1, 0, 0, -1001}, {1, 0, 0, -1001}, {0, 0, -1, -1001}, {0, 0, 2, -1001},
            {0, -1, 0, -1002}, {0, 13, 0, -1002}, {0, 13, 1, -1002}, {1, 13, 0, -1001}, {0, 13, 2, -1001}};
        for (int[] call : calls) {
            due("wants", x.wants(call[0], call[1], call[2]), call[3]);
            due("rid", x.rid(call[0], call[1], call[2]), call[3]);
        }
    }

    private static void best(HatGoes x, int guest, int n, int most, int first, int least, int firstRid) {
        due("wants " + guest + " for " + n, x.wants(guest, n, 0), most);
        due("wants first " + guest + " for " + n, x.wants(guest, n, 1), first);
        due("rid " + guest + " for " + n, x.rid(guest, n, 0), least);
        due("rid first " + guest + " for " + n, x.rid(guest, n, 1), firstRid);
    }

    private static void wantsAndRid() {
        // To the right of 0 a liar gives it back at once; to the left it goes round: 4, 3, 2, 1, 0.
        HatGoes x = CHECK.round(1, 1, 1, 1, 1);
        best(x, 0, 0, 0, -5, 0, -5);
        best(x, 0, 1, 1, 1, 1, 1);
        best(x, 0, 2, 1, 1, 1, 1);
        best(x, 0, 3, 2, 1, 1, 0);
        best(x, 0, 5, 3, 1, 1, 0);
        best(x, 0, 6, 3, 1, 2, 1);
        // Least: hours 0, 5, 10, or 0, 2, 7: as good.
        best(x, 0, 12, 6, 1, 3, 1);
        // 4 has it behind one saying, 2 behind three.
        best(x, 4, 1, 0, -5, 0, -5);
        best(x, 4, 2, 1, 1, 1, 1);
        best(x, 2, 3, 0, -5, 0, -5);
        best(x, 2, 4, 1, 1, 1, 1);
        best(x, 2, 6, 2, 1, 1, 0);
        // The mirror of that: the good neighbour sits to the left.
        HatGoes y = CHECK.round(0, 0, 0, 0, 0);
        best(y, 0, 3, 2, 0, 1, 1);
        best(y, 0, 12, 6, 0, 3, 1);
    }

    private static void bothAsGood() {
        HatGoes x = CHECK.round(0, 1, 0);
        // To the right: back at once from 1; to the left: 2 says 1, back at once too.
        best(x, 0, 12, 6, 1, 6, 1);
        HatGoes pair = CHECK.round(0, 0);
        best(pair, 1, 12, 6, 1, 6, 1);
        HatGoes alone = CHECK.round(1);
        best(alone, 0, 12, 12, 1, 12, 1);
        HatGoes stuck = CHECK.round(0, 0, 0);
        CHECK.house(stuck, "far 0", 0);
        best(stuck, 0, 12, 12, 1, 12, 1);
        best(stuck, 1, 12, 0, -5, 0, -5);
    }

    private static void byHours() {
        // Worth is told by the hour: 9 at hour 2, 20 at hour 5, else 1.
        HatGoes x = CHECK.round(1, 1, 1, 1, 1);
        CHECK.house(x, "worth 1 h<99;worth 8 h=2;worth 19 h=5", 0);
        best(x, 0, 3, 10, 1, 1, 0);
        // Right, right: hours 0, 2, 4: 11; right, left: 0, 2 alone: 10. Left: hours 0, 5: 21.
        best(x, 0, 6, 21, 0, 10, 1);
        // Right always: 0, 2, 4, 6: 12; left first: 0, 5, 7: 22; least: right, then left: 0, 2, 7: 11.
        best(x, 0, 8, 22, 0, 11, 1);
        x.saying();
        due("with 4", x.told(0), 4);
        // 4 has it first at hour 1, 2 at hour 3: what it is worth then counts.
        CHECK.house(x, "worth 3 h=1;worth 5 h=3;worth 7 h=11;worth 9 h=9", 1);
        due("worth at hour 1", x.wants(4, 2, 0), 3);
        due("worth at hour 3", x.rid(2, 4, 0), 5);
        CHECK.house(x, "worth 1 h<99;worth 8 h=2;worth 19 h=5", 2);
        // From hour 1: 4 has it at once: right: 0 at 2 and back at 3.
        best(x, 4, 1, 1, 1, 1, 1);
        best(x, 4, 5, 1 + 1 + 20, 1, 1, 0);
        // 12 hours on the clock shows the same.
        for (int k = 0; k < 12; k++) {
            x.saying();
        }
        due("hour", x.told(1), 13);
        x.hat(4);
        best(x, 4, 5, 1 + 1 + 20, 1, 1, 0);
    }

    private static void othersAsTheyDo() {
        // Told ones do by the hour: 1 gives it back to 0 at odd hours, but at hour 3 it goes on to 2.
        HatGoes x = CHECK.round(0, 6, 0, 0);
        x.row(1, 3, 1);
        // Left: 3 says 1, so back at hour 2. Right: 1 says 0 at hour 1, so back at hour 2 too.
        best(x, 0, 4, 2, 1, 2, 1);
        // From hour 2: right is lost (hour 4 with 2, 5 with 3, 6 with 0), left is back at 4, 6.
        best(x, 0, 7, 4, 1, 3, 1);
        x.hat(0);
        x.saying();
        x.saying();
        due("hour", x.told(1), 2);
        due("with 0", x.told(0), 0);
        best(x, 0, 3, 2, 0, 1, 1);
        best(x, 0, 5, 3, 0, 2, 1);
    }

    private static void two() {
        HatGoes x = CHECK.round(0, 0, 1, 1, 0, 0, 0);
        due("below", x.two(-1), HatGoes.NONE);
        due("above", x.two(7), HatGoes.NONE);
        due("nobody", new HatGoes().two(0), HatGoes.NONE);
        due("the same", x.two(0), 0);
        // 0 1 2 1 2 ..; 3 2 1 2 1 ..: they pass one another for ever.
        due("past one another", x.two(3), -5);
        // 2 1 2 1 ..: 0 1: both with 1.
        due("at once", x.two(2), 1);
        // 6 0 1 2 1 2: against 0 1 2 1 2 1: never.
        due("behind it for ever", x.two(6), -5);
        // 5 6 0 1: against 0 1 2 1: both with 1 behind 3.
        due("comes up", x.two(5), 3);
        due("behind it for ever", x.two(4), -5);
        due("nothing changed", x.told(0), 0);
        // The hour counts for both.
        HatGoes y = CHECK.round(6, 6, 6, 6, 6);
        y.row(0, 2, 1);
        y.row(1, 3, 1);
        // 0 4 3 2 ..; 2 1 0 1: hour 0: 4, 1; hour 1: 3, 0; hour 2: 2, 1; hour 3: 1, 2; hour 4: 0, 1.
        due("by the hour", y.two(2), twoByHand(2));
    }

    private static void twoBehindSixty() {
        HatGoes x = new HatGoes();
        int[] kinds = {1, 1, 5, 1, 1, 5, 5};
        int[] knows = {14, 177, 93, 37, 20, 120, 57};
        for (int k = 0; k < 7; k++) {
            x.guest(kinds[k], 0, knows[k]);
        }
        x.fact(3, true);
        x.fact(4, true);
        CHECK.house(x, "worth 9 h=5", 0);
        due("behind sixty", x.two(1), 60);
        due("behind sixty", x.two(2), 60);
        // All goes round in 24 hours, and at hour 23 guest 1 gives it to 0, guest 2 to 1.
        for (int k = 0; k < 23; k++) {
            x.saying();
        }
        x.hat(1);
        due("behind 61", x.two(2), -5);
        x.saying();
        due("has it", x.told(0), 0);
        due("behind sixty again", x.two(1), 60);
    }

    /** Where both hats go in the last run of two(), followed seat by seat. */
    private static int twoByHand(int second) {
        int a = 0;
        int b = second;
        for (int hour = 0; hour <= 60; hour++) {
            if (a == b) {
                return hour;
            }
            a = (a + (a == 0 && hour % 8 == 2 || a == 1 && hour % 8 == 3 ? 1 : 4)) % 5;
            b = (b + (b == 0 && hour % 8 == 2 || b == 1 && hour % 8 == 3 ? 1 : 4)) % 5;
        }
        return -5;
    }

    private static void fraction(HatGoes x, int guest, int n, long above, long below) {
        due("odds above " + guest + " " + n, x.odds(guest, n, 0), above);
        due("odds below " + guest + " " + n, x.odds(guest, n, 1), below);
    }

    private static void odds() {
        due("nobody", new HatGoes().odds(0, 0, 0), HatGoes.NO);
        // However they are: a kind says nothing of how often one lies.
        HatGoes x = CHECK.round(1, 0, 2);
        due("guest below", x.odds(-1, 0, 0), HatGoes.NO);
        due("guest above", x.odds(3, 0, 0), HatGoes.NO);
        due("n below", x.odds(0, -1, 0), HatGoes.NO);
        due("n above", x.odds(0, 13, 0), HatGoes.NO);
        due("part below", x.odds(0, 0, -1), HatGoes.NO);
        due("part above", x.odds(0, 0, 2), HatGoes.NO);
        fraction(x, 0, 0, 1, 1);
        fraction(x, 1, 0, 0, 1);
        fraction(x, 0, 1, 0, 1);
        fraction(x, 1, 1, 1, 2);
        fraction(x, 2, 1, 1, 2);
        fraction(x, 0, 2, 1, 2);
        fraction(x, 1, 2, 1, 4);
        // Behind 12: a third and what is left of it: (4096 + 2) / 3 of 4096.
        fraction(x, 0, 12, 683, 2048);
        fraction(x, 1, 12, 1365, 4096);
        // 0 lies 9 times of ten, 2 always: 2 says so from hour 1 on.
        CHECK.house(x, "lies 4 g=0;lies 5 g=2&h>0", 0);
        fraction(x, 2, 1, 9, 10);
        fraction(x, 1, 1, 1, 10);
        fraction(x, 1, 2, 9, 10);
        fraction(x, 0, 2, 1, 20);
        fraction(x, 2, 2, 1, 20);
        CHECK.house(x, "lies 5 g<9", 1);
        fraction(x, 2, 1, 1, 1);
        fraction(x, 1, 1, 0, 1);
        fraction(x, 0, 12, 1, 1);
        HatGoes pair = CHECK.round(0, 0);
        fraction(pair, 1, 11, 1, 1);
        fraction(pair, 0, 11, 0, 1);
        // Seven tenths twelve times: nothing to cut.
        HatGoes seven = CHECK.round(0, 0, 0, 0, 0, 0, 0);
        CHECK.house(seven, "far 0;lies 2 g=0", 0);
        fraction(seven, 0, 12, 1, 1);
    }

    private static void meanIs(HatGoes x, int n, long above, long below) {
        due("mean above " + n, x.mean(n, 0), above);
        due("mean below " + n, x.mean(n, 1), below);
    }

    private static void mean() {
        due("nobody", new HatGoes().mean(0, 0), HatGoes.NO);
        HatGoes x = CHECK.round(0, 0, 0);
        due("n below", x.mean(-1, 0), HatGoes.NO);
        due("n above", x.mean(13, 0), HatGoes.NO);
        due("part below", x.mean(0, -1), HatGoes.NO);
        due("part above", x.mean(0, 2), HatGoes.NO);
        meanIs(x, 0, 0, 1);
        meanIs(x, 1, 1, 1);
        meanIs(x, 12, 12, 1);
        CHECK.house(x, "worth 8 g=0;worth 3 g=1", 0);
        meanIs(x, 1, 8, 1);
        meanIs(x, 2, 19, 2);
        // Hour 2: half with 0, a quarter with 1: 4 and three quarters.
        meanIs(x, 3, 57, 4);
        CHECK.house(x, "worth 10 g=0;worth 1 h=1;lies 3 g=0", 1);
        // Hour 1: nobody with 0; 1 for whoever has it.
        meanIs(x, 2, 11, 1);
        // Hour 2: half of it is back with 0.
        meanIs(x, 3, 16, 1);
        // Hour 3: a quarter of it is with 0: two and a half more.
        meanIs(x, 4, 37, 2);
        CHECK.house(x, "worth 0 g=0", 2);
        meanIs(x, 12, 0, 1);
        // It goes left at hour 1 alone, right or left else: with 1 or 2 behind the first, then with 0 or 1.
        CHECK.house(x, "worth 4 g=0;lies 5 h=1", 3);
        meanIs(x, 3, 6, 1);
        x.saying();
        due("hour", x.told(1), 1);
        due("with 1", x.told(0), 1);
        // At hour 1 to 0 for sure.
        meanIs(x, 2, 4, 1);
    }

    private static void book() {
        HatGoes x = new HatGoes();
        due("below", x.book(-2), HatGoes.BAD);
        due("above", x.book(2), HatGoes.BAD);
        due("empty then", x.book(-1), 0);
        for (int k = 1; k <= 12; k++) {
            due("said " + k, x.book(k % 2), k);
        }
        due("bad ahead of full", x.book(2), HatGoes.BAD);
        due("full", x.book(0), HatGoes.FULL);
        due("full", x.book(1), HatGoes.FULL);
        due("twelve", x.count(3), 12);
        due("empty then", x.book(-1), 0);
        due("none", x.count(3), 0);
        due("again", x.book(0), 1);
    }

    private static void looked() {
        HatGoes x = new HatGoes();
        x.book(1);
        due("nobody", x.looked(), HatGoes.STATE);
        // 0 1 2 1 2: said 1, 1, 0, 1, 0 ..
        x = CHECK.round(0, 0, 1, 0);
        due("an empty book", x.looked(), -5);
        int[] said = {1, 1, 0, 1, 0, 1, 0, 1, 0, 1, 0, 1};
        for (int wrong = 0; wrong <= 12; wrong++) {
            x.book(-1);
            for (int k = 0; k < 12; k++) {
                x.book(k == wrong ? 1 - said[k] : said[k]);
                due("looked at " + (k + 1) + " with " + wrong, x.looked(), k >= wrong ? wrong : -5);
            }
        }
        x.saying();
        due("from now on", x.looked(), 1);
        x = CHECK.round(6, 6);
        x.row(0, 2, 1);
        x.row(1, 3, 1);
        for (int k = 0; k < 5; k++) {
            x.book(k == 2 || k == 3 ? 1 : 0);
        }
        due("by the hour", x.looked(), -5);
        x.saying();
        due("from hour 1 on, with the other one", x.looked(), 1);
    }
}
