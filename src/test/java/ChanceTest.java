/** Promises 18 to 22: seen, forget, could, rain, year. */
public final class ChanceTest {
    private static final int OUTSIDE = LatestSets.OUTSIDE, UNKNOWN = LatestSets.UNKNOWN;
    private static final Due due = new Due("ChanceTest");

    public static void main(String[] args) {
        sightsAreKept();
        whatCouldHaveBeen();
        meanHours();
        rainRefuses();
        yearsByDraws();
        yearRefuses();
        due.end();
    }

    private static void sightsAreKept() {
        LatestSets x = new LatestSets();
        due.is("seen(31, 0)", x.seen(31, 0), OUTSIDE);
        due.is("seen(-1, 0)", x.seen(-1, 0), OUTSIDE);
        due.is("seen(0, 24)", x.seen(0, 24), OUTSIDE);
        due.is("seen(0, -1)", x.seen(0, -1), OUTSIDE);
        due.is("seen(30, 23)", x.seen(30, 23), 1);
        for (int n = 2; n <= 6; n++) {
            due.is("the same once more", x.seen(30, 23), n);
        }
        due.is("a seventh", x.seen(1, 1), LatestSets.FULL);
        due.is("outside goes ahead of full", x.seen(31, 1), OUTSIDE);
        due.is("sights", x.told(4), 6);
        due.is("forget", x.forget(), 6);
        due.is("forget again", x.forget(), 0);
        due.is("one anew", x.seen(0, 0), 1);
    }

    private static void whatCouldHaveBeen() {
        LatestSets x = new LatestSets();
        due.is("nothing seen", x.could(0, 12), 63);
        x.seen(0, 12);
        due.is("the told hour itself", x.could(0, 12), 63);
        due.is("another one", x.could(0, 11), 0);
        x.seen(1, 15);
        due.is("3 late", x.could(2, 12), 8);
        x.seen(30, 23);
        due.is("30 weeks on", x.could(2, 12), 8);
        x.seen(2, 17);
        due.is("no such", x.could(2, 12), 0);
        x.forget();
        x.seen(4, 23);
        due.is("3 or more in 4 weeks of 11", x.could(1, 12), 56);
        x.member(0, 1, 4);
        due.is("another one is that late", x.could(1, 12), 63);
        due.is("he himself could be less late", x.could(0, 12), 56);
        due.is("LATE is left as told", x.told(20), 4);
        due.is("no member", x.could(4, 0), UNKNOWN);
        due.is("no member -1", x.could(-1, 0), UNKNOWN);
        due.is("unknown goes ahead", x.could(4, 24), UNKNOWN);
        due.is("from 24", x.could(0, 24), OUTSIDE);
        due.is("from -1", x.could(0, -1), OUTSIDE);
    }

    private static void rainIs(LatestSets x, int from, int w, int t, int r, long upper, long lower) {
        String call = "rain(" + from + ", " + w + ", " + t + ", " + r + ")";
        due.is(call + " upper", x.rain(from, w, t, r, 0), upper);
        due.is(call + " lower", x.rain(from, w, t, r, 1), lower);
    }

    private static void meanHours() {
        LatestSets x = new LatestSets();
        rainIs(x, 7, 0, 10, 9, 7, 1);
        rainIs(x, 0, 0, 5, 9, 0, 1);
        rainIs(x, 0, 8, 0, 9, 0, 1);
        rainIs(x, 0, 1, 5, 9, 9, 2);
        rainIs(x, 0, 1, 10, 9, 9, 1);
        // Once is enough: 9 (1 - (9/10)^2) = 171/100.
        rainIs(x, 0, 2, 1, 9, 171, 100);
        rainIs(x, 9, 8, 5, 9, 9, 1);
        rainIs(x, 0, 1, 4, 5, 2, 1);
        x.member(0, 0, 20);
        // Later by 9 than 20 is 23: 20 + 3/10.
        rainIs(x, 0, 1, 1, 9, 203, 10);
        x.members(1);
        x.member(0, 1, 1);
        // 0 to 1 or 3, then 1 to 2 or 3, and 3 to 4.
        rainIs(x, 0, 2, 5, 2, 13, 4);
        Due.law(x, "-1l");
        rainIs(x, 0, 1, 5, 3, 3, 2);
        Due.law(x, "-9h");
        rainIs(x, 23, 8, 3, 9, 0, 1);
    }

    private static void rainRefuses() {
        LatestSets x = new LatestSets();
        long lost = -1000000000000000002L;
        due.is("LOST and OUTSIDE", LatestSets.LOST + LatestSets.OUTSIDE, lost);
        due.is("from 24", x.rain(24, 0, 0, 0, 0), lost);
        due.is("from -1", x.rain(-1, 0, 0, 0, 0), lost);
        due.is("9 weeks", x.rain(0, 9, 0, 0, 0), lost);
        due.is("-1 weeks", x.rain(0, -1, 0, 0, 0), lost);
        due.is("11 tenths", x.rain(0, 0, 11, 0, 0), lost);
        due.is("-1 tenths", x.rain(0, 0, -1, 0, 0), lost);
        due.is("later by 10", x.rain(0, 0, 0, 10, 0), lost);
        due.is("later by -1", x.rain(0, 0, 0, -1, 0), lost);
        due.is("part 2", x.rain(0, 0, 0, 0, 2), lost);
        due.is("part -1", x.rain(0, 0, 0, 0, -1), lost);
    }

    private static void yearIs(LatestSets x, int seed, int w, int from, int last, int latest, int fines) {
        String call = "year(" + seed + ", " + w + ", " + from + ")";
        due.is(call + " last", x.year(seed, w, from, 0), last);
        due.is(call + " latest", x.year(seed, w, from, 1), latest);
        due.is(call + " fines", x.year(seed, w, from, 2), fines);
    }

    private static void yearsByDraws() {
        LatestSets x = new LatestSets();
        x.members(1);
        // x: 0 74 5624 28652 51790: 2, 2, 2, 1 left over by 3.
        yearIs(x, 0, 1, 12, 14, 14, 2);
        yearIs(x, 0, 2, 12, 16, 16, 4);
        yearIs(x, 0, 3, 12, 18, 18, 6);
        yearIs(x, 0, 4, 12, 19, 19, 7);
        x.fine(3);
        yearIs(x, 0, 4, 12, 19, 19, 21);
        x.member(0, 1, 5);
        // 7, 7, 7 late.
        yearIs(x, 0, 1, 1, 8, 8, 21);
        yearIs(x, 0, 3, 1, 22, 22, 63);
        x.members(2);
        x.fine(1);
        Due.law(x, "f");
        // Both are 2 late in week 0; then the one is 2, the other 1 late.
        yearIs(x, 0, 1, 4, 6, 6, 4);
        yearIs(x, 0, 2, 4, 7, 7, 7);
        Due.law(x, "-9f");
        // The told hour is the latest of all.
        yearIs(x, 0, 1, 20, 13, 20, 4);
    }

    private static void yearRefuses() {
        LatestSets x = new LatestSets();
        due.is("seed 10000", x.year(10000, 1, 0, 0), OUTSIDE);
        due.is("seed -1", x.year(-1, 1, 0, 0), OUTSIDE);
        due.is("0 weeks", x.year(0, 0, 0, 0), OUTSIDE);
        due.is("100 weeks", x.year(0, 100, 0, 0), OUTSIDE);
        due.is("from 24", x.year(0, 1, 24, 0), OUTSIDE);
        due.is("from -1", x.year(0, 1, -1, 0), OUTSIDE);
        due.is("what 3", x.year(0, 1, 0, 3), OUTSIDE);
        due.is("what -1", x.year(0, 1, 0, -1), OUTSIDE);
        due.is("seed 9999, 99 weeks", x.year(9999, 99, 23, 0), 23);
    }
}
