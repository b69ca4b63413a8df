import java.util.ArrayList;
import java.util.Arrays;
import java.util.List;

/**
 * Terms: "Calls that are refused answer, the first of these that fits: UNKNOWN, OUTSIDE, NO, STATE,
 * FULL. They change nothing." Each number of each call: the last value that is taken and the first
 * that is refused on each side; the refusal that comes first; and what stands after a refused call.
 */
public final class RefusalsTest {
    private static final int UNKNOWN = LatestSets.UNKNOWN, OUTSIDE = LatestSets.OUTSIDE, NO = LatestSets.NO,
        STATE = LatestSets.STATE, FULL = LatestSets.FULL;
    private static final long LOST_OUTSIDE = -1000000000000000002L;
    private static final Due due = new Due("RefusalsTest");

    interface Call {
        long on(LatestSets x, int[] a);
    }

    /** What a number of a call may be; of members the most is told by how many there are. */
    private static final class Bounds {
        final boolean member;
        final int least;
        final int most;

        Bounds(boolean member, int least, int most) {
            this.member = member;
            this.least = least;
            this.most = most;
        }
    }

    /** A call, its bounds, and numbers that it takes. */
    private static final class Told {
        final String name;
        final Call call;
        final Bounds[] bounds;
        final int[] plain;
        final long outside;

        Told(String name, Call call, Bounds[] bounds, int[] plain) {
            this.name = name;
            this.call = call;
            this.bounds = bounds;
            this.plain = plain;
            this.outside = name.equals("rain") ? LOST_OUTSIDE : OUTSIDE;
        }

        String with(int[] a) {
            return name + Arrays.toString(a);
        }
    }

    private static final Bounds MEMBER = new Bounds(true, 0, -1);
    private static final Bounds HOUR = to(0, 23);

    private static Bounds to(int least, int most) {
        return new Bounds(false, least, most);
    }

    private static Bounds[] all(Bounds... bounds) {
        return bounds;
    }

    private static int[] plain(int... a) {
        return a;
    }

    private static List<Told> told() {
        List<Told> t = new ArrayList<>();
        t.add(new Told("members", (x, a) -> x.members(a[0]), all(to(1, 6)), plain(3)));
        Call member = (x, a) -> x.member(a[0], a[1], a[2]);
        t.add(new Told("member", member, all(MEMBER, to(0, 2), HOUR), plain(0, 0, 4)));
        t.add(new Told("member", member, all(MEMBER, to(0, 2), to(0, 5)), plain(0, 1, 4)));
        t.add(new Told("member", member, all(MEMBER, to(0, 2), HOUR), plain(0, 2, 4)));
        t.add(new Told("fine", (x, a) -> x.fine(a[0]), all(to(0, 9)), plain(4)));
        t.add(new Told("say", (x, a) -> x.say(a[0]), all(to(33, 126)), plain(60)));
        t.add(new Told("hour", (x, a) -> x.hour(a[0], a[1]), all(HOUR, to(0, 99)), plain(5, 3)));
        t.add(new Told("comes", (x, a) -> x.comes(a[0], a[1], a[2]), all(MEMBER, HOUR, to(0, 99)), plain(0, 5, 3)));
        t.add(new Told("tends", (x, a) -> x.tends(a[0], a[1]), all(HOUR, to(0, 2)), plain(5, 1)));
        t.add(new Told("paid", (x, a) -> x.paid(a[0], a[1]), all(MEMBER, to(0, 99)), plain(0, 3)));
        t.add(new Told("content", (x, a) -> x.content(a[0]), all(HOUR), plain(5)));
        Call choice = (x, a) -> x.choice(a[0], a[1], a[2], a[3]);
        for (int w = 1; w <= 4; w++) {
            t.add(new Told("choice", choice, all(MEMBER, HOUR, to(1, 4), to(-1, w - 1)), plain(0, 5, w, 0)));
        }
        t.add(new Told("rests", (x, a) -> x.rests(a[0], 0), all(HOUR), plain(5)));
        t.add(new Told("laws", (x, a) -> x.laws(a[0], a[1]), all(HOUR, to(0, 1)), plain(5, 0)));
        t.add(new Told("move", (x, a) -> x.move(a[0], a[1], a[2]), all(HOUR, to(1, 9), HOUR), plain(5, 2, 5)));
        t.add(new Told("seen", (x, a) -> x.seen(a[0], a[1]), all(to(0, 30), HOUR), plain(3, 5)));
        t.add(new Told("could", (x, a) -> x.could(a[0], a[1]), all(MEMBER, HOUR), plain(0, 5)));
        t.add(new Told("rain", (x, a) -> x.rain(a[0], a[1], a[2], a[3], a[4]),
            all(HOUR, to(0, 8), to(0, 10), to(0, 9), to(0, 1)), plain(5, 3, 4, 2, 0)));
        t.add(new Told("year", (x, a) -> x.year(a[0], a[1], a[2], a[3]),
            all(to(0, 9999), to(1, 99), HOUR, to(0, 2)), plain(77, 5, 5, 1)));
        t.add(new Told("image", (x, a) -> x.image(a[0]), all(to(0, 1)), plain(0)));
        t.add(new Told("restore", (x, a) -> x.restore(a[0]), all(to(0, 1)), plain(0)));
        return t;
    }

    public static void main(String[] args) {
        for (Told t : told()) {
            for (int n = 1; n <= 6; n++) {
                endsAreTaken(t, n);
                beyondIsRefused(t, n);
            }
            theFirstThatFits(t);
        }
        outsideGoesAheadOfFull();
        outsideGoesAheadOfState();
        aFaultIsNo();
        stateWhereNoneWasKept();
        fullChangesNothing();
        questionsChangeNothing();
        due.end();
    }

    /** A guild of n of whom each row, the law, the sights and both images differ from those of a new one. */
    private static LatestSets rich(int n) {
        LatestSets x = new LatestSets();
        x.members(2);
        x.member(1, 0, 9);
        x.fine(5);
        Due.law(x, "-1l");
        x.seen(0, 1);
        x.image(1);
        x.members(n);
        for (int m = 0; m < n; m++) {
            x.member(m, 0, 3 * m);
            x.member(m, 1, 5 - m);
            x.member(m, 2, 7 + m);
        }
        x.fine(2);
        Due.law(x, "<-3l+2h");
        x.seen(0, 5);
        x.seen(1, 2);
        x.image(0);
        x.member(0, 2, 20);
        x.fine(3);
        x.seen(0, 5);
        Due.write(x, "~/lh");
        return x;
    }

    /** All that can be told of an object, its images and what stands on its pad; the object is spent then. */
    private static String spend(LatestSets x) {
        StringBuilder s = new StringBuilder();
        s.append(x.fault()).append(' ');
        tell(s, x);
        // A pad without a fault is told sign by sign when it is the law.
        s.append(" enact ").append(x.enact());
        tell(s, x);
        for (int n = 0; n < 2; n++) {
            s.append(" restore ").append(n).append(' ').append(x.restore(n));
            tell(s, x);
        }
        return s.toString();
    }

    private static void tell(StringBuilder s, LatestSets x) {
        for (int what = 0; what <= 60; what++) {
            s.append(x.told(what)).append(',');
        }
        s.append(x.could(0, 1)).append(',').append(x.could(0, 5)).append(',').append(x.could(0, 12));
    }

    private static int least(Bounds b) {
        return b.least;
    }

    private static int most(Bounds b, int n) {
        return b.member ? n - 1 : b.most;
    }

    private static void endsAreTaken(Told t, int n) {
        for (int j = 0; j < t.bounds.length; j++) {
            for (int v : new int[] {least(t.bounds[j]), most(t.bounds[j], n)}) {
                int[] a = t.plain.clone();
                a[j] = v;
                if (t.name.equals("choice") && j == 2) {
                    // The number of weeks is looked at, not the week of them.
                    a[3] = 0;
                }
                long got = t.call.on(rich(n), a);
                due.holds(t.with(a) + " of " + n + " is taken: " + got,
                    got >= 0 || got == LatestSets.NONE && (t.name.equals("move") || t.name.equals("rests")));
            }
        }
    }

    private static int[] beyond(Bounds b, int n) {
        return new int[] {least(b) - 1, most(b, n) + 1, least(b) - 2, most(b, n) + 2, 100000, -100000,
            Integer.MIN_VALUE, Integer.MAX_VALUE, least(b) + 65536, least(b) - 65536};
    }

    private static void beyondIsRefused(Told t, int n) {
        String untouched = spend(rich(n));
        for (int j = 0; j < t.bounds.length; j++) {
            for (int v : beyond(t.bounds[j], n)) {
                int[] a = t.plain.clone();
                a[j] = v;
                LatestSets x = rich(n);
                long want = t.bounds[j].member ? UNKNOWN : t.outside;
                due.is(t.with(a) + " of " + n, t.call.on(x, a), want);
                due.holds(t.with(a) + " of " + n + " changes nothing", spend(x).equals(untouched));
            }
        }
    }

    /** Every set of the numbers is beyond its bounds at once, on either side. */
    private static void theFirstThatFits(Told t) {
        LatestSets x = rich(4);
        for (int set = 1; set < 1 << t.bounds.length; set++) {
            for (int side = 0; side < 2; side++) {
                int[] a = t.plain.clone();
                boolean unknown = false;
                for (int j = 0; j < a.length; j++) {
                    if ((set >> j & 1) != 0) {
                        a[j] = side == 0 ? least(t.bounds[j]) - 1 : most(t.bounds[j], 4) + 1;
                        unknown |= t.bounds[j].member;
                    }
                }
                due.is(t.with(a), t.call.on(x, a), unknown ? UNKNOWN : t.outside);
            }
        }
        due.holds(t.name + ": all of them change nothing", spend(x).equals(spend(rich(4))));
    }

    private static void outsideGoesAheadOfFull() {
        LatestSets x = new LatestSets();
        for (int i = 0; i < 48; i++) {
            x.say('l');
        }
        due.is("say(32) on a full pad", x.say(32), OUTSIDE);
        due.is("say(127) on a full pad", x.say(127), OUTSIDE);
        due.is("say(33) on a full pad", x.say(33), FULL);
        due.is("say(126) on a full pad", x.say(126), FULL);
        for (int i = 0; i < 6; i++) {
            x.seen(0, 0);
        }
        due.is("a seventh sight in week 31", x.seen(31, 0), OUTSIDE);
        due.is("a seventh sight in week -1", x.seen(-1, 0), OUTSIDE);
        due.is("a seventh sight of 24", x.seen(0, 24), OUTSIDE);
        due.is("a seventh sight of -1", x.seen(0, -1), OUTSIDE);
        due.is("a seventh sight", x.seen(0, 0), FULL);
        due.is("a seventh sight at the other ends", x.seen(30, 23), FULL);
    }

    private static void outsideGoesAheadOfState() {
        LatestSets x = new LatestSets();
        due.is("restore(-1), none kept", x.restore(-1), OUTSIDE);
        due.is("restore(2), none kept", x.restore(2), OUTSIDE);
        due.is("restore(0), none kept", x.restore(0), STATE);
        due.is("restore(1), none kept", x.restore(1), STATE);
    }

    private static void aFaultIsNo() {
        String[] faulty = {"", "x", "ll", "<", "<l", "-l", "-5", "~~~~~~~~~~~~~~~~~~~~", "~~~~~~~~~~~~~~~~~~~ll"};
        for (String text : faulty) {
            LatestSets x = rich(3);
            LatestSets y = rich(3);
            due.is("enact of " + text, Due.law(x, text), NO);
            y.wipe();
            Due.write(y, text);
            due.is("signs of " + text, x.told(0), text.length());
            due.holds("enact of " + text + " changes nothing", spend(x).equals(spend(y)));
        }
        LatestSets z = new LatestSets();
        Due.write(z, "<l");
        due.is("enact ahead of its end", z.enact(), NO);
        z.say('f');
        due.is("and at its end", z.enact(), 3);
    }

    private static void stateWhereNoneWasKept() {
        for (int n = 0; n < 2; n++) {
            LatestSets x = new LatestSets();
            LatestSets y = new LatestSets();
            for (LatestSets z : new LatestSets[] {x, y}) {
                z.members(3);
                z.member(2, 1, 4);
                z.fine(8);
                Due.law(z, "~m");
                z.seen(1, 11);
                z.image(1 - n);
                z.fine(7);
                Due.write(z, "-1f");
            }
            due.is("restore(" + n + ")", x.restore(n), STATE);
            due.holds("restore(" + n + ") changes nothing", spend(x).equals(spend(y)));
        }
    }

    private static void fullChangesNothing() {
        LatestSets x = rich(4);
        LatestSets y = rich(4);
        for (LatestSets z : new LatestSets[] {x, y}) {
            z.seen(30, 23);
            z.seen(2, 2);
            due.is("the sixth", z.seen(0, 5), 6);
        }
        due.is("a seventh", x.seen(9, 9), FULL);
        due.is("sights", x.told(4), 6);
        due.holds("a seventh changes nothing", spend(x).equals(spend(y)));
        LatestSets p = new LatestSets();
        for (int i = 0; i < 48; i++) {
            p.say(i < 20 ? '~' : 'l');
        }
        due.is("a 49th", p.say('5'), FULL);
        due.is("signs", p.told(0), 48);
        due.is("the fault", p.fault(), 20);
        due.is("they go", p.wipe(), 48);
        due.is("room again", p.say('l'), 1);
        due.is("no fault is left of them", p.fault(), LatestSets.NONE);
    }

    /** Only members, member, fine, say, wipe, enact, seen, forget, image and restore change a thing. */
    private static void questionsChangeNothing() {
        for (int n = 1; n <= 6; n++) {
            String untouched = spend(rich(n));
            for (Told t : told()) {
                if (!"members member fine say seen image restore".contains(t.name)) {
                    LatestSets x = rich(n);
                    long once = t.call.on(x, t.plain);
                    due.is(t.with(t.plain) + " again", t.call.on(x, t.plain), once);
                    due.holds(t.with(t.plain) + " changes nothing", spend(x).equals(untouched));
                }
            }
        }
        LatestSets x = rich(4);
        x.fault();
        x.rests(5, -1);
        x.rests(5, -2);
        x.rests(5, 3);
        x.move(5, 9, 23);
        x.move(5, 9, 0);
        due.holds("so do these", spend(x).equals(spend(rich(4))));
    }
}
