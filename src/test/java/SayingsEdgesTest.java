import java.io.IOException;
import java.util.function.Supplier;

/** Boundary cases that the document names, of sayings and of where the hat was: a test for each sentence. */
public final class SayingsEdgesTest {
    private static final int GUEST = 0, LIAR = 1, SLY = 2, GREEDY = 5, TOLD = 6;

    private static Edges edges;

    private static void due(String call, long got, long want) {
        edges.due(call, got, want);
    }

    public static void main(String[] args) throws IOException {
        edges = new Edges("SayingsEdgesTest");
        saying();
        sayingRound();
        sayingHours();
        changesNothing();
        at();
        atHours();
        atRange();
        atOrder();
        atNobody();
        comes();
        comesLate();
        comesWrong();
        soonest();
        soonestWrong();
        keeps();
        keepsWrong();
        was();
        wasIs();
        wasTwelve();
        wasWrong();
        lied();
        liedAtLeastAtMost();
        liedCannot();
        mustMay();
        liedWrong();
        stranger();
        strangerTwelve();
        strangerAlike();
        strangerGoes();
        strangerKnowing();
        strangerWrong();
        edges.end();
    }

    private static void saying() {
        edges.says("`int saying()`: A SAYING: what was SAID. STATE: nobody is there, or HOUR is 9999.");
        edges.still("nobody", HatGoes::new, HatGoes::saying, -3);
        Supplier<HatGoes> housed = () -> Edges.housed(new HatGoes(), "far 3");
        edges.still("nobody in a house", housed, HatGoes::saying, -3);
        HatGoes x = new HatGoes();
        x.image();
        x.guest(LIAR, 0, 0);
        due("somebody", x.saying(), 0);
        x.undo();
        due("nobody again", x.saying(), -3);
        due("no hour more", x.told(1), 0);
    }

    private static void sayingRound() {
        edges.says("THE HAT goes far seats to the right (round), if who has it SAYS 1, else far to the left");
        int[] fars = {0, 1, 2, 3, 6, 7, 8, 13, 14, 15, 50, 98, 99};
        for (int far : fars) {
            for (int seats = 1; seats <= 7; seats++) {
                HatGoes right = Edges.housed(Edges.alike(GUEST, seats), "far " + far);
                HatGoes left = Edges.housed(Edges.alike(LIAR, seats), "far " + far);
                for (int from = 0; from < seats; from++) {
                    String call = "far " + far + " from " + from + " of " + seats;
                    right.hat(from);
                    left.hat(from);
                    due(call + " said", right.saying(), 1);
                    due(call + " said", left.saying(), 0);
                    due(call + " to the right", right.told(0), (from + far) % seats);
                    due(call + " to the left", left.told(0), (from + 700 * seats - far) % seats);
                }
            }
        }
    }

    private static void sayingHours() {
        edges.says("HOUR is 1 more (9999 at most).");
        // 9999 itself can't be come to by 512 calls, so no test looks at what is there.
        HatGoes x = Edges.alike(GUEST, 2);
        for (int hour = 0; hour < 500; hour++) {
            x.saying();
        }
        due("behind 500", x.told(1), 500);
        x.saying();
        due("one more", x.told(1), 501);
    }

    private static void changesNothing() {
        edges.says("All that follows is asked, goes on from how all is (HOURS also beyond 9999), and changes nothing.");
        edges.asked("at(60, 0)", x -> x.at(60, 0));
        edges.asked("at(60, 1)", x -> x.at(60, 1));
        edges.asked("at(59, 15)", x -> x.at(59, 15));
        edges.asked("comes(5)", x -> x.comes(5));
        edges.asked("soonest(0, 4)", x -> x.soonest(0, 4));
        edges.asked("keeps(4, 12)", x -> x.keeps(4, 12));
        for (int what = 0; what <= 3; what++) {
            int each = what;
            edges.asked("lied(" + what + ")", x -> x.lied(each));
            edges.asked("stranger(12, " + what % 3 + ")", x -> x.stranger(12, each % 3));
            edges.asked("wants(4, 12, " + what % 2 + ")", x -> x.wants(4, 12, each % 2));
            edges.asked("rid(2, 12, " + what % 2 + ")", x -> x.rid(2, 12, each % 2));
            edges.asked("odds(4, 12, " + what % 2 + ")", x -> x.odds(4, 12, each % 2));
            edges.asked("mean(12, " + what % 2 + ")", x -> x.mean(12, each % 2));
        }
        edges.asked("two(4)", x -> x.two(4));
        edges.asked("looked()", HatGoes::looked);
    }

    private static void atIs(HatGoes x, int n, int who, int lies) {
        due("who, behind " + n, x.at(n, 0), who);
        due("zeros, of " + n, x.at(n, 1), lies);
    }

    private static void at() {
        edges.says("AT of n SAYINGS (0 .. 60): who has THE HAT behind them; how many of them were 0; how many of them a"
            + " GUEST SAID.");
        HatGoes x = Edges.alike(LIAR, 7);
        x.hat(2);
        atIs(x, 0, 2, 0);
        atIs(x, 1, 1, 1);
        atIs(x, 59, (2 + 70 - 59) % 7, 59);
        atIs(x, 60, (2 + 70 - 60) % 7, 60);
        for (int g = 0; g < 7; g++) {
            due("guest " + g + " of 0", x.at(0, 10 + g), 0);
            due("guest " + g + " of 1", x.at(1, 10 + g), g == 2 ? 1 : 0);
            due("guest " + g + " of 7", x.at(7, 10 + g), 1);
            // 60 are eight rounds and 2, 1, 0, 6.
            due("guest " + g + " of 60", x.at(60, 10 + g), g == 2 || g == 1 || g == 0 || g == 6 ? 9 : 8);
        }
        HatGoes all = Edges.alike(GUEST, 7);
        atIs(all, 60, 4, 0);
        HatGoes alone = Edges.alike(LIAR, 1);
        atIs(alone, 60, 0, 60);
        due("all of 60", alone.at(60, 10), 60);
        due("none of 0", alone.at(0, 10), 0);
    }

    private static void atHours() {
        edges.says("goes on from how all is");
        // One that is told says 1 at hours 3 and 4 of eight; the hat stays with it.
        HatGoes x = Edges.housed(Edges.row(Edges.alike(TOLD, 7), 0, 0b00011000), "far 7");
        for (int hour = 0; hour < 10; hour++) {
            int ones = 0;
            for (int n = 0; n <= 60; n++) {
                due("zeros of " + n + " from hour " + hour, x.at(n, 1), n - ones);
                int part = (hour + n) % 8;
                ones += part == 3 || part == 4 ? 1 : 0;
            }
            x.saying();
        }
    }

    private static void atRange() {
        edges.says("AT: what 0 who has THE HAT, 1 how many were 0, 10 and g how many GUEST g SAID. NONE; BAD: n;");
        for (int n : Edges.outside(0, 60)) {
            edges.refused("at(" + n + ", 0)", x -> x.at(n, 0), -2);
            edges.refused("at(" + n + ", 1)", x -> x.at(n, 1), -2);
            edges.refused("at(" + n + ", 10)", x -> x.at(n, 10), -2);
            edges.refused("at(" + n + ", 15)", x -> x.at(n, 15), -2);
        }
        int[] whats = {-1, 2, 3, 5, 9, 16, 17, 20, 256, 266, Integer.MIN_VALUE, Integer.MIN_VALUE + 10,
            Integer.MAX_VALUE};
        for (int what : whats) {
            edges.refused("at(1, " + what + ")", x -> x.at(1, what), -1);
        }
        due("the seventh's", Edges.alike(LIAR, 7).at(60, 16), 9);
        due("nobody behind the seventh", Edges.alike(LIAR, 7).at(60, 17), -1);
    }

    private static void atOrder() {
        edges.says("10 and g how many GUEST g SAID. NONE; BAD: n; STATE: nobody is there.");
        edges.refused("what ahead of n", x -> x.at(61, 2), -1);
        edges.refused("the guest ahead of n", x -> x.at(-1, 16), -1);
        edges.still("what ahead of nobody", HatGoes::new, x -> x.at(0, 2), -1);
        edges.still("the guest ahead of nobody", HatGoes::new, x -> x.at(0, 10), -1);
        edges.still("n ahead of nobody", HatGoes::new, x -> x.at(61, 0), -2);
        edges.still("n ahead of nobody", HatGoes::new, x -> x.at(-1, 1), -2);
    }

    private static void atNobody() {
        edges.says("STATE: nobody is there.");
        edges.still("at(0, 0)", HatGoes::new, x -> x.at(0, 0), -3);
        edges.still("at(60, 0)", HatGoes::new, x -> x.at(60, 0), -3);
        edges.still("at(0, 1)", HatGoes::new, x -> x.at(0, 1), -3);
        edges.still("stranger(0, 0)", HatGoes::new, x -> x.stranger(0, 0), -3);
        edges.still("stranger(12, 2)", HatGoes::new, x -> x.stranger(12, 2), -3);
        edges.still("looked()", HatGoes::new, HatGoes::looked, -3);
        HatGoes x = new HatGoes();
        x.image();
        x.guest(0, 0, 0);
        x.undo();
        due("nobody again", x.at(0, 0), -3);
    }

    private static void comes() {
        edges.says("COMES to a GUEST: the fewest SAYINGS (0 .. 60) by which it has THE HAT (-5: not by these).");
        for (int seats = 1; seats <= 7; seats++) {
            HatGoes right = Edges.alike(GUEST, seats);
            HatGoes left = Edges.alike(LIAR, seats);
            for (int from = 0; from < seats; from++) {
                right.hat(from);
                left.hat(from);
                for (int to = 0; to < seats; to++) {
                    due("to the right", right.comes(to), (to - from + seats) % seats);
                    due("to the left", left.comes(to), (from - to + seats) % seats);
                }
            }
        }
        HatGoes two = Edges.round(GUEST, LIAR, GUEST);
        due("never", two.comes(2), -5);
        HatGoes stays = Edges.housed(Edges.alike(GUEST, 7), "far 7");
        due("it has it now", stays.comes(0), 0);
        due("never to another one", stays.comes(1), -5);
    }

    private static void comesLate() {
        edges.says("the fewest SAYINGS (0 .. 60) by which it has THE HAT");
        // A search found no evening that comes to a guest for the first time behind more than 58, so 60 stays unseen.
        int[] knows = {170, 43, 31, 11, 42, 35, 58};
        HatGoes x = new HatGoes();
        for (int known : knows) {
            x.guest(GREEDY, 0, known);
        }
        Edges.facts(x, 255);
        Edges.house(x, "worth 6 g=1&h=0|g=1&h=10|g=2&h=4|g=2&h=5|g=3&h=0|g=3&h=8|g=5&h=0|g=5&h=1");
        int[] first = {0, 56, 33, 32, 25, 8, 1};
        for (int g = 0; g < 7; g++) {
            due("to guest " + g, x.comes(g), first[g]);
        }
        x.saying();
        due("one saying on", x.comes(1), 55);
    }

    private static void comesWrong() {
        edges.says("`int comes(int guest)`: COMES; -5. NONE.");
        for (int guest : Edges.outside(0, 5)) {
            edges.refused("comes(" + guest + ")", x -> x.comes(guest), -1);
        }
        edges.still("nobody", HatGoes::new, x -> x.comes(0), -1);
        due("the last of seven", Edges.alike(GUEST, 7).comes(6), 6);
    }

    /** The fewest steps of far seats, all to one side, from one seat to another. */
    private static int slowSoonest(int seats, int far, int from, int to) {
        for (int k = 0; k <= 7; k++) {
            if ((from + k * far) % seats == to || (from + k * far * (seats - 1)) % seats == to) {
                return k;
            }
        }
        return -5;
    }

    private static void soonest() {
        edges.says("the fewest SAYINGS by which THE HAT could go from the first to the second (0: they are one; -5: by"
            + " none)");
        int[] fars = {0, 1, 2, 3, 4, 5, 6, 7, 12, 14, 35, 99};
        for (int far : fars) {
            for (int seats = 1; seats <= 7; seats++) {
                HatGoes x = Edges.housed(Edges.alike(LIAR, seats), "far " + far);
                for (int from = 0; from < seats; from++) {
                    for (int to = 0; to < seats; to++) {
                        due("far " + far + " of " + seats + ": soonest(" + from + ", " + to + ")",
                            x.soonest(from, to), slowSoonest(seats, far, from, to));
                    }
                }
            }
        }
        HatGoes x = Edges.alike(GUEST, 7);
        due("one", x.soonest(6, 6), 0);
        due("round the end", x.soonest(6, 0), 1);
        due("round the other end", x.soonest(0, 6), 1);
        due("the most", x.soonest(0, 3), 3);
        due("by none", Edges.housed(Edges.alike(GUEST, 6), "far 2").soonest(0, 3), -5);
    }

    private static void soonestWrong() {
        edges.says("`int soonest(int from, int to)`: SOONEST from one to another; -5. NONE.");
        for (int guest : Edges.outside(0, 5)) {
            edges.refused("soonest(" + guest + ", 0)", x -> x.soonest(guest, 0), -1);
            edges.refused("soonest(0, " + guest + ")", x -> x.soonest(0, guest), -1);
            edges.refused("soonest(" + guest + ", the same)", x -> x.soonest(guest, guest), -1);
        }
        edges.still("nobody", HatGoes::new, x -> x.soonest(0, 0), -1);
    }

    /** All rows of n 0 and 1, one by one. */
    private static int slowKeeps(int seats, int far, int hat, int guest, int n) {
        int keeps = 0;
        for (int row = 0; row < 1 << n; row++) {
            int seat = hat;
            boolean has = seat == guest;
            for (int k = 0; k < n; k++) {
                seat = (seat + ((row >> k & 1) == 1 ? far : (seats - 1) * far)) % seats;
                has = has || seat == guest;
            }
            keeps += has ? 0 : 1;
        }
        return keeps;
    }

    private static void keeps() {
        edges.says("it would never have THE HAT (now, behind any of these)");
        for (int seats = 1; seats <= 7; seats++) {
            for (int far = 0; far <= 3; far++) {
                HatGoes x = Edges.housed(Edges.alike(LIAR, seats), "far " + far);
                x.hat(seats - 1);
                for (int guest = 0; guest < seats; guest++) {
                    for (int n = 0; n <= 12; n++) {
                        due("far " + far + " of " + seats + ": keeps(" + guest + ", " + n + ")", x.keeps(guest, n),
                            slowKeeps(seats, far, seats - 1, guest, n));
                    }
                }
            }
        }
        HatGoes x = Edges.alike(GUEST, 7);
        due("now", x.keeps(0, 0), 0);
        due("not now", x.keeps(1, 0), 1);
        due("behind the last", x.keeps(3, 3), 7);
        due("none of 12", Edges.alike(GUEST, 2).keeps(1, 12), 0);
        due("all of 12", Edges.housed(x, "far 0").keeps(6, 12), 4096);
    }

    private static void keepsWrong() {
        edges.says("KEEPS of a GUEST for n SAYINGS (0 .. 12)");
        for (int n : Edges.outside(0, 12)) {
            edges.refused("keeps(0, " + n + ")", x -> x.keeps(0, n), -2);
            edges.refused("the guest ahead of n", x -> x.keeps(6, n), -1);
        }
        for (int guest : Edges.outside(0, 5)) {
            edges.refused("keeps(" + guest + ", 12)", x -> x.keeps(guest, 12), -1);
        }
        edges.still("nobody", HatGoes::new, x -> x.keeps(0, 0), -1);
        edges.still("nobody, ahead of n", HatGoes::new, x -> x.keeps(0, 13), -1);
    }

    private static HatGoes tells(HatGoes x, int... seats) {
        x.was(-1);
        for (int seat : seats) {
            x.was(seat);
        }
        return x;
    }

    private static void was() {
        edges.says("`int was(int guest)`: A GUEST comes to WAS: how many there are (-1: none then, 0). NONE; FULL: 12.");
        edges.still("nobody, none told: was(-1)", HatGoes::new, x -> x.was(-1), 0);
        HatGoes x = Edges.alike(GUEST, 7);
        due("none at first", x.count(2), 0);
        for (int k = 1; k <= 12; k++) {
            due("was " + k, x.was(k % 7), k);
            due("how many", x.count(2), k);
        }
        due("a thirteenth", x.was(6), -4);
        due("a thirteenth", x.was(0), -4);
        due("twelve stay", x.count(2), 12);
        due("none then", x.was(-1), 0);
        due("none", x.count(2), 0);
        due("the first again", x.was(6), 1);
    }

    private static void wasIs() {
        edges.says("WAS: told by hand: who had THE HAT, HOUR by HOUR, the first one now (12 at most; none at first).");
        HatGoes x = tells(Edges.alike(GUEST, 5), 0, 4, 0);
        x.saying();
        due("told stays told, and the first is now still", x.lied(0), -5);
        x.hat(0);
        due("from the hour that is now", x.lied(2), 1);
        due("told by hand alone: a saying adds none", x.count(2), 3);
        x.was(-1);
        due("none: nothing between", x.lied(1), 0);
        x.was(0);
        due("one: nothing between", x.lied(3), 0);
        due("guests may come often", x.was(0), 2);
        due("but it does not stay where far is 1", x.lied(0), -5);
        Edges.house(x, "far 5");
        due("it may where far goes round", x.lied(0), 0);
        due("said so or not", x.lied(1), 1);
    }

    private static HatGoes twelve() {
        return tells(Edges.alike(GUEST, 7), 0, 1, 0, 1, 2, 3, 4, 5, 6, 0, 6, 5);
    }

    private static void wasTwelve() {
        edges.says("the first one now (12 at most; none at first)");
        for (int seat = 0; seat < 7; seat++) {
            int each = seat;
            edges.still("a thirteenth", SayingsEdgesTest::twelve, x -> x.was(each), -4);
        }
        HatGoes x = twelve();
        due("bits of eleven", x.lied(3), 0b11000000010);
        x.was(4);
        due("bits of eleven still", x.lied(3), 0b11000000010);
    }

    private static void wasWrong() {
        edges.says("(-1: none then, 0). NONE; FULL: 12.");
        for (int guest : Edges.outside(-1, 5)) {
            edges.refused("was(" + guest + ")", x -> x.was(guest), -1);
        }
        for (int guest : Edges.outside(-1, 6)) {
            edges.still("no such guest ahead of full", SayingsEdgesTest::twelve, x -> x.was(guest), -1);
        }
        edges.still("nobody", HatGoes::new, x -> x.was(0), -1);
    }

    private static void liedIs(HatGoes x, int least, int most, int must, int may) {
        due("at least", x.lied(0), least);
        due("at most", x.lied(1), most);
        due("must", x.lied(2), must);
        due("may", x.lied(3), may);
    }

    private static void lied() {
        edges.says("LIED: how many of the SAYINGS between these could have been 0 at least, at most");
        liedIs(new HatGoes(), 0, 0, 0, 0);
        HatGoes none = Edges.alike(GUEST, 3);
        for (int hat = 0; hat < 3; hat++) {
            none.hat(hat);
            liedIs(none, 0, 0, 0, 0);
            liedIs(tells(none, (hat + 1) % 3), -5, -5, -5, -5);
            liedIs(tells(none), 0, 0, 0, 0);
        }
        liedIs(tells(Edges.alike(GUEST, 3), 0), 0, 0, 0, 0);
        liedIs(tells(Edges.alike(GUEST, 3), 0, 1), 0, 0, 0, 0);
        liedIs(tells(Edges.alike(GUEST, 3), 0, 2), 1, 1, 1, 1);
        liedIs(tells(Edges.alike(GUEST, 3), 0, 1, 2, 0, 1, 2, 0, 1, 2, 0, 1, 2), 0, 0, 0, 0);
        liedIs(tells(Edges.alike(GUEST, 3), 0, 2, 1, 0, 2, 1, 0, 2, 1, 0, 2, 1), 11, 11, 2047, 2047);
        liedIs(tells(Edges.alike(GUEST, 2), 0, 1, 0, 1, 0, 1, 0, 1, 0, 1, 0, 1), 0, 11, 0, 2047);
        liedIs(tells(Edges.alike(GUEST, 1), 0, 0, 0, 0, 0, 0, 0, 0, 0, 0, 0, 0), 0, 11, 0, 2047);
        liedIs(tells(Edges.alike(LIAR, 7), 0, 1, 0, 6), 2, 2, 6, 6);
    }

    /** All rows of sayings, one by one: at least, at most, must, may, or -5 in each place. */
    private static int[] slowLied(int seats, int far, int hat, int[] was) {
        int sayings = Math.max(was.length - 1, 0);
        int[] is = {-5, -5, -5, -5};
        for (int zeros = 0; zeros < 1 << sayings; zeros++) {
            int seat = hat;
            boolean fits = was.length == 0 || was[0] == hat;
            for (int k = 0; k < sayings; k++) {
                seat = (seat + ((zeros >> k & 1) == 1 ? (seats - 1) * far : far)) % seats;
                fits = fits && was[k + 1] == seat;
            }
            int lies = Integer.bitCount(zeros);
            if (fits) {
                is = is[0] == -5 ? new int[] {lies, lies, zeros, zeros} : new int[] {Math.min(is[0], lies),
                    Math.max(is[1], lies), is[2] & zeros, is[3] | zeros};
            }
        }
        return is;
    }

    private static void liedAtLeastAtMost() {
        edges.says("MUST: the HOURS from now on (bits) at which it must have been 0; MAY: those at which it can have"
            + " been.");
        int[][] walks = {{}, {0}, {1}, {0, 1}, {0, 0}, {0, 1, 2, 1, 0, 1, 0}, {0, 2, 0, 2, 0, 2, 0, 2, 0, 2, 0, 2},
            {0, 3, 0, 1, 0, 3, 2}, {0, 1, 0, 1, 0, 1, 0, 1, 0, 1, 0, 1}, {0, 2, 1, 0, 2, 1, 0}, {2, 1, 0}, {0, 3, 2, 1},
            {0, 0, 0, 0, 0, 0, 0, 0, 0, 0, 0, 0}, {0, 2, 4, 1, 3, 0}, {0, 3, 1, 4, 2, 0, 3, 0}, {0, 1, 2, 3, 3}};
        for (int seats = 1; seats <= 7; seats++) {
            for (int far = 0; far <= 4; far++) {
                HatGoes x = Edges.housed(Edges.alike(far % 2, seats), "far " + far);
                for (int[] walk : walks) {
                    int highest = 0;
                    for (int seat : walk) {
                        highest = Math.max(highest, seat);
                    }
                    if (highest < seats) {
                        int[] want = slowLied(seats, far, 0, walk);
                        liedIs(tells(x, walk), want[0], want[1], want[2], want[3]);
                    }
                }
            }
        }
    }

    private static void liedCannot() {
        edges.says("(-5: it can't have gone so from now on, whatever is SAID)");
        int[][] walks = {{1}, {6}, {1, 0}, {1, 2}, {0, 0}, {0, 2}, {0, 1, 1}, {0, 1, 3}, {0, 1, 2, 3, 4, 5, 6, 0, 1, 2,
            3, 3}, {0, 1, 2, 3, 4, 5, 6, 0, 1, 2, 3, 5}, {3, 1, 2, 3, 4, 5, 6, 0, 1, 2, 3, 4}};
        for (int[] walk : walks) {
            liedIs(tells(Edges.alike(GUEST, 7), walk), -5, -5, -5, -5);
        }
        HatGoes x = tells(Edges.alike(GUEST, 7), 0, 1, 2);
        liedIs(x, 0, 0, 0, 0);
        x.saying();
        liedIs(x, -5, -5, -5, -5);
        x.hat(0);
        liedIs(x, 0, 0, 0, 0);
        Edges.house(x, "far 0");
        liedIs(x, -5, -5, -5, -5);
    }

    private static void mustMay() {
        edges.says("the first one now");
        HatGoes x = tells(Edges.alike(GUEST, 5), 3, 2, 3);
        liedIs(x, -5, -5, -5, -5);
        x.hat(3);
        liedIs(x, 1, 1, 1, 1);
        x.hat(2);
        liedIs(x, -5, -5, -5, -5);
    }

    private static void liedWrong() {
        edges.says("`int lied(int what)`: LIED: what 0 at least, 1 at most; -5; MUST: 2; MAY: 3 (bits; -5). NONE.");
        for (int what : Edges.outside(0, 3)) {
            edges.refused("lied(" + what + ")", x -> x.lied(what), -1);
            edges.still("nobody: lied(" + what + ")", HatGoes::new, x -> x.lied(what), -1);
            due("what ahead of -5", tells(Edges.alike(GUEST, 7), 1).lied(what), -1);
        }
    }

    private static void strangerIs(HatGoes x, int n, int ways, int alike, int so) {
        due("ways of " + n, x.stranger(n, 0), ways);
        due("alike in " + n, x.stranger(n, 1), alike);
        due("so in " + n, x.stranger(n, 2), so);
    }

    private static void stranger() {
        edges.says("STRANGER for n SAYINGS (0 .. 12): of all 256 ways in which FACTS may be");
        for (int facts = 0; facts <= 255; facts += 51) {
            HatGoes x = new HatGoes();
            for (int k = 0; k < 3; k++) {
                x.guest(SLY, 0, 255);
            }
            Edges.facts(x, facts);
            strangerIs(x, 0, 256, 0, 0);
            for (int n = 1; n <= 12; n++) {
                int seen = n < 8 ? (1 << n) - 1 : 255;
                strangerIs(x, n, n < 8 ? 256 >> n : 1, seen, facts & seen);
            }
        }
        strangerIs(Edges.round(GUEST, LIAR, 3), 12, 256, 0, 0);
        strangerIs(Edges.alike(SLY, 3), 12, 256, 0, 0);
    }

    private static void strangerTwelve() {
        edges.says("STRANGER for n SAYINGS (0 .. 12)");
        // Guest 1 gives the hat back to 0 each time, but at hour 11 to 2, if a fact is so.
        HatGoes x = Edges.housed(Edges.round(GUEST, GREEDY, GUEST), "worth 6 h=11&s>0");
        strangerIs(x, 11, 256, 0, 0);
        strangerIs(x, 12, 1, 255, 0);
        x.fact(2, true);
        strangerIs(x, 12, 255, 0, 0);
        x = Edges.housed(Edges.round(GUEST, GREEDY, GUEST), "worth 6 h=11&s>7");
        Edges.facts(x, 255);
        strangerIs(x, 12, 1, 255, 255);
        x.saying();
        x.hat(1);
        // From hour 1 on, the eleventh is at hour 11.
        strangerIs(x, 10, 256, 0, 0);
        strangerIs(x, 11, 1, 255, 255);
        // From hour 2 on guest 0 has it at even hours, and hour 12 counts as 0 does: that is the thirteenth.
        x = Edges.housed(Edges.round(GREEDY, GUEST, GUEST), "worth 6 h=0&s>7");
        x.hat(1);
        strangerIs(x, 12, 256, 0, 0);
        x.saying();
        strangerIs(x, 11, 256, 0, 0);
        strangerIs(x, 12, 255, 0, 0);
    }

    private static void strangerAlike() {
        edges.says("FACTS that are the same in all of these, as bits; those of them that are so");
        HatGoes x = new HatGoes();
        x.guest(SLY, 0, 0b10000001);
        x.guest(LIAR, 0, 0);
        x.guest(GUEST, 0, 0);
        Edges.facts(x, 0b11111111);
        strangerIs(x, 1, 128, 1, 1);
        x.fact(0, false);
        strangerIs(x, 1, 128, 1, 0);
        // From hour 7 on: fact 7, then 0 at hour 8 with another one.
        for (int k = 0; k < 7; k++) {
            x.saying();
        }
        x.hat(0);
        strangerIs(x, 1, 128, 128, 128);
        x.fact(7, false);
        strangerIs(x, 1, 128, 128, 0);
    }

    /** So many SLY ones who know it all, in a house. */
    private static HatGoes knowers(int seats, String house) {
        HatGoes x = new HatGoes();
        for (int k = 0; k < seats; k++) {
            x.guest(SLY, 0, 255);
        }
        return Edges.housed(x, house);
    }

    private static void strangerGoes() {
        edges.says("how many there are by which THE HAT goes just as it truly does");
        // Where left is right the hat goes alike whatever is said, so it tells nothing.
        strangerIs(knowers(1, "far 1"), 12, 256, 0, 0);
        strangerIs(knowers(2, "far 1"), 12, 256, 0, 0);
        strangerIs(knowers(4, "far 2"), 12, 256, 0, 0);
        strangerIs(knowers(6, "far 9"), 12, 256, 0, 0);
        strangerIs(knowers(7, "far 0"), 12, 256, 0, 0);
        strangerIs(knowers(7, "far 98"), 12, 256, 0, 0);
        strangerIs(knowers(7, "far 99"), 12, 1, 255, 0);
        strangerIs(knowers(3, "far 1"), 12, 1, 255, 0);
        // Guest 0 has it back behind two sayings by either way, but it was with 2 or with 1 between them.
        HatGoes x = new HatGoes();
        x.guest(SLY, 0, 1);
        x.guest(LIAR, 0, 0);
        x.guest(GUEST, 0, 0);
        due("by a lie", x.at(2, 0), 0);
        strangerIs(x, 2, 128, 1, 0);
        x.fact(0, true);
        due("by no lie", x.at(2, 0), 0);
        strangerIs(x, 2, 128, 1, 1);
    }

    private static void strangerKnowing() {
        edges.says("(GUESTS KNOWING as they do)");
        for (int knows = 0; knows <= 255; knows++) {
            HatGoes x = new HatGoes();
            for (int k = 0; k < 3; k++) {
                x.guest(SLY, 0, knows);
            }
            Edges.facts(x, 0b01100101);
            strangerIs(x, 12, 256 >> Integer.bitCount(knows), knows, knows & 0b01100101);
        }
    }

    private static void strangerWrong() {
        edges.says("`int stranger(int n, int what)`: STRANGER: what 0 how many, 1 FACTS alike in all, 2 of these those"
            + " that are so. NONE; BAD: n; STATE: nobody is there.");
        for (int what : Edges.outside(0, 2)) {
            edges.refused("stranger(12, " + what + ")", x -> x.stranger(12, what), -1);
            edges.refused("what ahead of n", x -> x.stranger(13, what), -1);
            edges.still("what ahead of nobody", HatGoes::new, x -> x.stranger(0, what), -1);
        }
        for (int n : Edges.outside(0, 12)) {
            edges.refused("stranger(" + n + ", 0)", x -> x.stranger(n, 0), -2);
            edges.refused("stranger(" + n + ", 2)", x -> x.stranger(n, 2), -2);
            edges.still("n ahead of nobody", HatGoes::new, x -> x.stranger(n, 0), -2);
        }
    }
}
