/** Counts the answers that are not due, and prints each of them. */
final class Due {
    private final String test;
    private int wrong;
    private int looked;

    Due(String test) {
        this.test = test;
    }

    void is(String call, long got, long want) {
        looked++;
        if (got != want) {
            wrong++;
            if (wrong <= 40) {
                System.out.println(test + ": " + call + " answered " + got + ", due is " + want);
            }
        }
    }

    void holds(String what, boolean good) {
        is(what, good ? 1 : 0, 1);
    }

    /** Ends the program: exit code 1 if an answer was not due. */
    void end() {
        System.out.println(test + ": " + looked + " answers, " + wrong + " not as due");
        if (wrong != 0 || looked == 0) {
            System.exit(1);
        }
    }

    /** Writes a law on an empty pad and enacts it; the answer is enact's. */
    static int law(LatestSets x, String text) {
        x.wipe();
        write(x, text);
        return x.enact();
    }

    static void write(LatestSets x, String text) {
        for (int i = 0; i < text.length(); i++) {
            x.say(text.charAt(i));
        }
    }

    /** The fault of a text on an emptied pad. */
    static int faultOf(LatestSets x, String text) {
        x.wipe();
        write(x, text);
        return x.fault();
    }
}
