/** Counts what is not as due and ends a test's run by it. */
final class Check {
    private final String test;
    private int looked;
    private int wrong;

    Check(String test) {
        this.test = test;
    }

    void due(String call, long got, long want) {
        looked++;
        if (got != want) {
            wrong++;
            System.out.println(test + ": " + call + " answered " + got + ", due is " + want);
        }
    }

    void holds(String what, boolean is) {
        looked++;
        if (!is) {
            wrong++;
            System.out.println(test + ": not so: " + what);
        }
    }

    /** A new object with guests of these kinds round the table; v of each is its number. */
    HatGoes round(int... kinds) {
        HatGoes x = new HatGoes();
        for (int k = 0; k < kinds.length; k++) {
            due("guest " + k, x.guest(kinds[k], k, 0), k);
        }
        return x;
    }

    /** Feeds a text sign by sign; the text ahead of it is empty. */
    void feeds(HatGoes x, String text) {
        for (int k = 0; k < text.length(); k++) {
            due("feed of sign " + k + " of " + text, x.feed(text.charAt(k)), k + 1);
        }
    }

    void house(HatGoes x, String text, int answer) {
        feeds(x, text);
        due("house() of " + text, x.house(), answer);
    }

    void end() {
        System.out.println(test + ": " + looked + " looked at, " + wrong + " wrong");
        if (wrong > 0 || looked == 0) {
            System.exit(1);
        }
    }
}
