/** Promises 10 to 17: sayings, where the hat is when, where it was, what a stranger knows. */
public final class SayingsTest {
    private static final Check CHECK = new Check("SayingsTest");

    private static void due(String call, long got, long want) {
        CHECK.due(call, got, want);
    }

    public static void main(String[] args) {
        saying();
        sayingFar();
        at();
        atBeyondTheLastHour();
        comes();
        soonest();
        keeps();
        was();
        lied();
        stranger();
        strangerCountsFacts();
        CHECK.end();
    }

    private static void saying() {
        due("nobody", new HatGoes().saying(), HatGoes.STATE);
        // 0 GUEST, 1 LIAR, 2 GUEST: from 0 to 1, back to 0, and so on.
        HatGoes x = CHECK.round(0, 1, 0);
        int[] said = {1, 0, 1, 0};
        int[] has = {1, 0, 1, 0};
        for (int k = 0; k < 4; k++) {
            due("saying " + k, x.saying(), said[k]);
            due("has it behind " + k, x.told(0), has[k]);
            due("hour behind " + k, x.told(1), k + 1);
        }
        x.hat(2);
        due("the last one's", x.saying(), 1);
        due("round to the first", x.told(0), 0);
        x = CHECK.round(1, 0, 0);
        due("the first one's", x.saying(), 0);
        due("round to the last", x.told(0), 2);
        x = CHECK.round(1);
        due("alone", x.saying(), 0);
        due("still", x.told(0), 0);
        due("hour", x.told(1), 1);
    }

    private static void sayingFar() {
        HatGoes x = CHECK.round(0, 0, 1, 0, 0);
        CHECK.house(x, "far 17", 0);
        due("far", x.saying(), 1);
        due("17 seats of 5 on", x.told(0), 2);
        due("far", x.saying(), 0);
        due("17 seats of 5 back", x.told(0), 0);
        CHECK.house(x, "far 0", 1);
        due("far 0", x.saying(), 1);
        due("stays", x.told(0), 0);
        due("hour", x.told(1), 3);
    }

    private static void at() {
        HatGoes x = new HatGoes();
        due("nobody", x.at(0, 0), HatGoes.STATE);
        due("nobody", x.at(60, 1), HatGoes.STATE);
        due("nobody to say it", x.at(0, 10), HatGoes.NONE);
        due("bad ahead of state", x.at(61, 0), HatGoes.BAD);
        x = CHECK.round(0, 0, 1);
        due("what below", x.at(1, -1), HatGoes.NONE);
        due("what between", x.at(1, 2), HatGoes.NONE);
        due("what between", x.at(1, 9), HatGoes.NONE);
        due("what above", x.at(1, 13), HatGoes.NONE);
        due("what far below", x.at(1, Integer.MIN_VALUE), HatGoes.NONE);
        due("none ahead of bad", x.at(-1, 2), HatGoes.NONE);
        due("n below", x.at(-1, 0), HatGoes.BAD);
        due("n above", x.at(61, 0), HatGoes.BAD);
        // 0, 1, 2, 1, 2, 1 ...
        for (int n = 0; n <= 60; n++) {
            due("who, " + n, x.at(n, 0), n == 0 ? 0 : n % 2 == 1 ? 1 : 2);
            due("zeros, " + n, x.at(n, 1), n < 2 ? 0 : (n - 1) / 2);
            due("guest 0 said, " + n, x.at(n, 10), n > 0 ? 1 : 0);
            due("guest 1 said, " + n, x.at(n, 11), n / 2);
            due("guest 2 said, " + n, x.at(n, 12), n < 2 ? 0 : (n - 1) / 2);
        }
        due("nothing changed", x.told(0), 0);
        due("nothing changed", x.told(1), 0);
    }

    private static void atBeyondTheLastHour() {
        // The told one goes on by hours, so what is asked has to count them.
        HatGoes x = CHECK.round(6, 0, 0, 0, 0, 0, 0);
        x.row(0, 3, 1);
        CHECK.house(x, "far 0", 0);
        due("eight hours: one 1", x.at(8, 1), 7);
        due("sixty hours: 3, 11, .. 59", x.at(60, 1), 52);
        due("59 hours", x.at(59, 1), 52);
        x.saying();
        due("from hour 1: 3, 11, .. 59", x.at(59, 1), 51);
    }

    private static void comes() {
        HatGoes x = CHECK.round(0, 0, 0, 1, 0);
        due("below", x.comes(-1), HatGoes.NONE);
        due("above", x.comes(5), HatGoes.NONE);
        due("has it", x.comes(0), 0);
        due("next", x.comes(1), 1);
        due("then", x.comes(3), 3);
        due("never", x.comes(4), -5);
        x.hat(4);
        due("from another one", x.comes(3), 4);
        // Guest 0 knows all, liars give the hat back: it goes right at even hours but hour 6, then left.
        x = new HatGoes();
        x.guest(5, 0, 255);
        x.guest(1, 0, 0);
        x.guest(1, 0, 0);
        x.guest(1, 0, 0);
        for (int fact = 0; fact < 8; fact++) {
            x.fact(fact, fact != 6);
        }
        due("behind the seventh", x.comes(3), 7);
        x.fact(6, true);
        due("never, if that is so too", x.comes(3), -5);
        comesSlowly();
    }

    private static void comesSlowly() {
        HatGoes x = new HatGoes();
        for (int k = 0; k < 7; k++) {
            x.guest(6, 0, 0);
            for (int part = 0; part < 8; part += 2) {
                x.row(k, part, 1);
            }
            x.row(k, 7, 1);
        }
        // Right and left by turns, but right at hour 7 too: two seats to the right in eight sayings.
        int[] first = {0, 1, 8, 9, 16, 17, 24};
        for (int k = 0; k < 7; k++) {
            due("two seats in eight, guest " + k, x.comes(k), first[k]);
        }
    }

    private static void soonest() {
        HatGoes x = CHECK.round(1, 1, 1, 1, 1, 1, 1);
        due("from below", x.soonest(-1, 0), HatGoes.NONE);
        due("from above", x.soonest(7, 0), HatGoes.NONE);
        due("to below", x.soonest(0, -1), HatGoes.NONE);
        due("to above", x.soonest(0, 7), HatGoes.NONE);
        int[] seats = {0, 1, 2, 3, 3, 2, 1};
        for (int from = 0; from < 7; from++) {
            for (int to = 0; to < 7; to++) {
                due("soonest " + from + " " + to, x.soonest(from, to), seats[(to - from + 7) % 7]);
            }
        }
        CHECK.house(x, "far 3", 0);
        int[] threes = {0, 2, 3, 1, 1, 3, 2};
        for (int to = 0; to < 7; to++) {
            due("by threes to " + to, x.soonest(0, to), threes[to]);
        }
        CHECK.house(x, "far 7", 1);
        due("itself", x.soonest(3, 3), 0);
        due("by none", x.soonest(3, 4), -5);
        HatGoes even = CHECK.round(0, 0, 0, 0);
        CHECK.house(even, "far 2", 0);
        due("across", even.soonest(1, 3), 1);
        due("the other half", even.soonest(1, 2), -5);
    }

    private static void keeps() {
        HatGoes x = CHECK.round(0, 0, 0, 0, 0);
        due("below", x.keeps(-1, 1), HatGoes.NONE);
        due("above", x.keeps(5, 1), HatGoes.NONE);
        due("none ahead of bad", x.keeps(5, 13), HatGoes.NONE);
        due("n below", x.keeps(0, -1), HatGoes.BAD);
        due("n above", x.keeps(0, 13), HatGoes.BAD);
        due("has it now", x.keeps(0, 0), 0);
        due("has it now", x.keeps(0, 12), 0);
        due("no saying", x.keeps(1, 0), 1);
        due("one saying", x.keeps(1, 1), 1);
        due("one saying", x.keeps(2, 1), 2);
        // Away from 1: of LL, LR, RL, RR the first two.
        due("two sayings", x.keeps(1, 2), 2);
        // Away from 2: all but RR. Three: LLL comes to 2, and so do RR and whatever: 8 - 2 - 1.
        due("two sayings", x.keeps(2, 2), 3);
        due("three sayings", x.keeps(2, 3), 5);
        x.hat(1);
        due("the first guest, two sayings", x.keeps(0, 2), 2);
        x.hat(0);
        CHECK.house(x, "far 0", 0);
        due("it stays", x.keeps(1, 12), 4096);
        HatGoes pair = CHECK.round(0, 0);
        due("left is right", pair.keeps(1, 1), 0);
        due("left is right", pair.keeps(1, 0), 1);
    }

    private static void was() {
        HatGoes x = new HatGoes();
        due("nobody", x.was(0), HatGoes.NONE);
        due("none then", x.was(-1), 0);
        x.guest(0, 0, 0);
        x.guest(0, 0, 0);
        due("below", x.was(-2), HatGoes.NONE);
        due("above", x.was(2), HatGoes.NONE);
        for (int k = 1; k <= 12; k++) {
            due("was " + k, x.was(k % 2), k);
        }
        due("none ahead of full", x.was(2), HatGoes.NONE);
        due("full", x.was(0), HatGoes.FULL);
        due("twelve", x.count(2), 12);
        due("none then", x.was(-1), 0);
        due("none", x.count(2), 0);
        due("again", x.was(1), 1);
    }

    private static void lied(HatGoes x, int least, int most, int must, int may) {
        due("lied(0)", x.lied(0), least);
        due("lied(1)", x.lied(1), most);
        due("lied(2)", x.lied(2), must);
        due("lied(3)", x.lied(3), may);
    }

    private static void tell(HatGoes x, int... seats) {
        x.was(-1);
        for (int k = 0; k < seats.length; k++) {
            due("was", x.was(seats[k]), k + 1);
        }
    }

    private static void lied() {
        HatGoes x = new HatGoes();
        due("below", x.lied(-1), HatGoes.NONE);
        due("above", x.lied(4), HatGoes.NONE);
        lied(x, 0, 0, 0, 0);
        x = CHECK.round(0, 0, 0, 0, 0);
        lied(x, 0, 0, 0, 0);
        x.hat(3);
        lied(x, 0, 0, 0, 0);
        x.hat(0);
        tell(x, 0);
        lied(x, 0, 0, 0, 0);
        tell(x, 0, 4, 0, 4, 3, 2, 3);
        lied(x, 4, 4, 0b011101, 0b011101);
        tell(x, 0, 1, 2, 3, 4, 0, 1, 2, 3, 4, 0, 1);
        lied(x, 0, 0, 0, 0);
        tell(x, 0, 4, 3, 2, 1, 0, 4, 3, 2, 1, 0, 4);
        lied(x, 11, 11, 2047, 2047);
        tell(x, 0, 4, 3, 3);
        lied(x, -5, -5, -5, -5);
        due("what first", x.lied(4), HatGoes.NONE);
        // The first one is now, so it has to be who has the hat.
        tell(x, 1);
        lied(x, -5, -5, -5, -5);
        tell(x, 1, 2, 1);
        lied(x, -5, -5, -5, -5);
        x.hat(1);
        lied(x, 1, 1, 2, 2);
        HatGoes pair = CHECK.round(0, 0);
        tell(pair, 0, 1, 0, 1);
        lied(pair, 0, 3, 0, 7);
        CHECK.house(pair, "far 2", 0);
        lied(pair, -5, -5, -5, -5);
        tell(pair, 0, 0, 0);
        lied(pair, 0, 2, 0, 3);
        HatGoes four = CHECK.round(0, 0, 0, 0);
        CHECK.house(four, "far 3", 0);
        tell(four, 0, 1, 0, 3);
        lied(four, 1, 1, 0b001, 0b001);
    }

    private static void stranger(HatGoes x, int n, int ways, int alike, int so) {
        due("ways of " + n, x.stranger(n, 0), ways);
        due("alike of " + n, x.stranger(n, 1), alike);
        due("so of " + n, x.stranger(n, 2), so);
    }

    private static void stranger() {
        HatGoes x = new HatGoes();
        due("nobody", x.stranger(0, 0), HatGoes.STATE);
        due("what ahead of n", x.stranger(13, 3), HatGoes.NONE);
        due("n ahead of nobody", x.stranger(13, 0), HatGoes.BAD);
        // Guest 0 is sly and knows 0, 1, 3; guests 1 and 2 bring the hat back to it by rows of their own.
        x.guest(2, 0, 0b1011);
        x.guest(1, 0, 0);
        x.guest(0, 0, 0);
        due("what below", x.stranger(1, -1), HatGoes.NONE);
        due("what above", x.stranger(1, 3), HatGoes.NONE);
        due("n below", x.stranger(-1, 0), HatGoes.BAD);
        x.fact(0, true);
        x.fact(4, true);
        x.fact(2, true);
        stranger(x, 0, 256, 0, 0);
        stranger(x, 1, 128, 1, 1);
        stranger(x, 2, 128, 1, 1);
        // At hour 2 it doesn't know fact 2, so it says 0 whatever that is.
        stranger(x, 3, 128, 1, 1);
        x.saying();
        x.saying();
        x.saying();
        due("with the other neighbour", x.told(0), 2);
        x.hat(0);
        // At hour 3: fact 3 is known and not so.
        stranger(x, 1, 128, 8, 0);
        stranger(x, 12, 128 / 2, 8 + 2, 0);
        // All are alike to who can't tell left from right.
        HatGoes pair = new HatGoes();
        pair.guest(2, 0, 255);
        pair.guest(2, 0, 255);
        stranger(pair, 12, 256, 0, 0);
        HatGoes three = new HatGoes();
        three.guest(2, 0, 255);
        three.guest(2, 0, 255);
        three.guest(2, 0, 255);
        three.fact(6, true);
        stranger(three, 8, 1, 255, 64);
        stranger(three, 7, 2, 127, 64);
    }

    private static void strangerCountsFacts() {
        // A greedy one that knows nothing says 0, but 1 if more than 5 facts are so.
        HatGoes x = new HatGoes();
        x.guest(5, 0, 0);
        x.guest(0, 0, 0);
        x.guest(0, 0, 0);
        CHECK.house(x, "worth 6 s>5", 0);
        stranger(x, 1, 256 - 37, 0, 0);
        for (int fact = 0; fact < 8; fact++) {
            x.fact(fact, true);
        }
        stranger(x, 1, 37, 0, 0);
        CHECK.house(x, "worth 6 s>7", 1);
        stranger(x, 1, 1, 255, 255);
        CHECK.house(x, "worth 5 s>7", 2);
        stranger(x, 1, 256, 0, 0);
    }
}
