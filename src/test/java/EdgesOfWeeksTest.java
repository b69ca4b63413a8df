/** The second part of the document's Terms, sentence by sentence, at its edges: weeks, rings, fines, content. */
public final class EdgesOfWeeksTest {
    private static final int OUTSIDE = LatestSets.OUTSIDE, UNKNOWN = LatestSets.UNKNOWN;
    private static final Due due = new Due("EdgesOfWeeksTest");

    public static void main(String[] args) {
        weekZeroIsTheToldOne();
        hoursWeekAfterWeek();
        whenAMemberComesInAWeek();
        hourRefusesAtItsEnds();
        weeksAheadOfTheRing();
        ringsAreFollowed();
        theLeastHourOfTheRing();
        tendsRefusesAtItsEnds();
        finesInTheFirstWeeks();
        paidAtWhateverHourHeComes();
        paidRefusesAtItsEnds();
        contentOfAllTogether();
        contentRefusesAtItsEnds();
        due.end();
    }

    // "the HOUR of week w (0: the told one)"
    private static void weekZeroIsTheToldOne() {
        for (String law : new String[] {"l", "~h", "-9h", "+9f"}) {
            LatestSets x = new LatestSets();
            Due.law(x, law);
            x.member(0, 0, 14);
            x.member(1, 1, 5);
            for (int h = 0; h <= 23; h++) {
                due.is(law + ": week 0 from " + h, x.hour(h, 0), h);
                due.is(law + ": early in week 0 from " + h, x.comes(0, h, 0), Math.max(h, 14));
                due.is(law + ": late in week 0 from " + h, x.comes(1, h, 0), Math.min(23, h + 5));
            }
        }
    }

    private static void hoursWeekAfterWeek() {
        LatestSets x = new LatestSets();
        Due.law(x, "+1h");
        int[] weeks = {0, 1, 22, 23, 24, 98, 99};
        int[] hours = {0, 1, 22, 23, 23, 23, 23};
        for (int i = 0; i < weeks.length; i++) {
            due.is("1 more: week " + weeks[i], x.hour(0, weeks[i]), hours[i]);
            due.is("1 more from 23: week " + weeks[i], x.hour(23, weeks[i]), 23);
        }
        Due.law(x, "~h");
        for (int w = 0; w <= 99; w++) {
            due.is("turned: week " + w, x.hour(0, w), w % 2 == 0 ? 0 : 23);
        }
        // By 0 23 1 22 2 21 .. 11 12 11 12.
        Due.law(x, "+1<-2>~-1hl~p");
        for (int w = 0; w <= 23; w++) {
            due.is("from both ends: week " + w, x.hour(0, w), w % 2 == 0 ? w / 2 : 23 - w / 2);
        }
        due.is("from both ends: week 24", x.hour(0, 24), 11);
        due.is("from both ends: week 98", x.hour(0, 98), 11);
        due.is("from both ends: week 99", x.hour(0, 99), 12);
    }

    // "when a MEMBER comes in it"
    private static void whenAMemberComesInAWeek() {
        LatestSets x = new LatestSets();
        x.member(1, 0, 10);
        x.member(2, 1, 4);
        x.member(3, 0, 23);
        Due.law(x, "+1h");
        int[] weeks = {0, 1, 9, 10, 11, 18, 19, 20, 23, 99};
        int[][] at = {{0, 1, 9, 10, 11, 18, 19, 20, 23, 23}, {10, 10, 10, 10, 11, 18, 19, 20, 23, 23},
            {4, 5, 13, 14, 15, 22, 23, 23, 23, 23}, {23, 23, 23, 23, 23, 23, 23, 23, 23, 23}};
        for (int m = 0; m < 4; m++) {
            for (int i = 0; i < weeks.length; i++) {
                due.is(m + " in week " + weeks[i], x.comes(m, 0, weeks[i]), at[m][i]);
            }
        }
        due.is("from 23", x.comes(2, 23, 0), 23);
    }

    // "HOUR of week w (0 to 99) from an HOUR. OUTSIDE."; "UNKNOWN; OUTSIDE, likewise."
    private static void hourRefusesAtItsEnds() {
        LatestSets x = new LatestSets();
        int[][] taken = {{0, 0}, {0, 99}, {23, 0}, {23, 99}};
        for (int[] a : taken) {
            due.is("hour", x.hour(a[0], a[1]), a[0]);
            due.is("comes", x.comes(3, a[0], a[1]), a[0]);
        }
        int[][] refused = {{-1, 0}, {24, 0}, {0, -1}, {0, 100}, {-1, 99}, {24, 99}, {23, -1}, {23, 100}, {24, 100}};
        for (int[] a : refused) {
            due.is("hour", x.hour(a[0], a[1]), OUTSIDE);
            due.is("comes of 0", x.comes(0, a[0], a[1]), OUTSIDE);
            due.is("comes of 3", x.comes(3, a[0], a[1]), OUTSIDE);
            due.is("comes of 4", x.comes(4, a[0], a[1]), UNKNOWN);
            due.is("comes of -1", x.comes(-1, a[0], a[1]), UNKNOWN);
        }
    }

    private static void tendsIs(LatestSets x, int from, int ahead, int length, int least) {
        due.is("tends(" + from + ", 0)", x.tends(from, 0), ahead);
        due.is("tends(" + from + ", 1)", x.tends(from, 1), length);
        due.is("tends(" + from + ", 2)", x.tends(from, 2), least);
    }

    // "how many WEEKS there are ahead of the RING"
    private static void weeksAheadOfTheRing() {
        LatestSets x = new LatestSets();
        // None: the told hour is in it.
        tendsIs(x, 0, 0, 1, 0);
        tendsIs(x, 23, 0, 1, 23);
        Due.law(x, "+1h");
        for (int h = 0; h <= 23; h++) {
            tendsIs(x, h, 23 - h, 1, 23);
        }
        Due.law(x, "-1h");
        for (int h = 0; h <= 23; h++) {
            tendsIs(x, h, h, 1, 0);
        }
        Due.law(x, "+1<-2>~-1hl~p");
        // All 24 hours come, the last two of them again and again.
        tendsIs(x, 0, 22, 2, 11);
        tendsIs(x, 23, 21, 2, 11);
        tendsIs(x, 22, 19, 2, 11);
        tendsIs(x, 10, 2, 2, 11);
        tendsIs(x, 13, 1, 2, 11);
        tendsIs(x, 11, 0, 2, 11);
        tendsIs(x, 12, 0, 2, 11);
    }

    // "HOURS come round at last": the hours of the ring come again each length of it, and no hour ahead of it does.
    private static void ringsAreFollowed() {
        for (String law : new String[] {"l", "~m", "+1<-2>~-1hl~p", "~+2h", "<+9h~+9h", "/~lf", "-2l"}) {
            LatestSets x = new LatestSets();
            x.member(1, 1, 1);
            x.member(2, 0, 6);
            Due.law(x, law);
            for (int from = 0; from <= 23; from += 3) {
                int ahead = x.tends(from, 0);
                int length = x.tends(from, 1);
                int least = 24;
                for (int w = ahead; w < ahead + length; w++) {
                    least = Math.min(least, x.hour(from, w));
                }
                due.is(law + " from " + from + ": the least", x.tends(from, 2), least);
                due.is(law + " from " + from + ": round", x.hour(from, ahead + length), x.hour(from, ahead));
                due.holds(law + " from " + from + ": at most all hours", ahead + length <= 24 && length >= 1);
                if (ahead > 0) {
                    due.holds(law + " from " + from + ": not sooner",
                        x.hour(from, ahead - 1) != x.hour(from, ahead - 1 + length));
                }
            }
        }
    }

    // "its least HOUR": of the ring, not of the weeks ahead of it; wherever in the ring it stands.
    private static void theLeastHourOfTheRing() {
        LatestSets x = new LatestSets();
        Due.law(x, "~h");
        for (int h = 0; h <= 23; h++) {
            tendsIs(x, h, 0, 2, Math.min(h, 23 - h));
        }
        Due.law(x, "<+9h~+9h");
        // 0 9 5 9: the lesser hour 0 is ahead of the ring.
        tendsIs(x, 0, 1, 2, 5);
        tendsIs(x, 9, 0, 2, 5);
        tendsIs(x, 5, 0, 2, 5);
    }

    private static void tendsRefusesAtItsEnds() {
        LatestSets x = new LatestSets();
        for (int what = 0; what <= 2; what++) {
            due.is("from 0", x.tends(0, what), what == 1 ? 1 : 0);
            due.is("from 23", x.tends(23, what), what == 0 ? 0 : what == 1 ? 1 : 23);
            due.is("from -1", x.tends(-1, what), OUTSIDE);
            due.is("from 24", x.tends(24, what), OUTSIDE);
        }
        for (int what : new int[] {-1, 3, Integer.MIN_VALUE, Integer.MAX_VALUE}) {
            due.is("what " + what, x.tends(0, what), OUTSIDE);
        }
    }

    // "FINES of a MEMBER in the first w WEEKS (FINE times LATE in each .."
    private static void finesInTheFirstWeeks() {
        LatestSets x = new LatestSets();
        for (int late = 0; late <= 5; late++) {
            x.member(2, 1, late);
            for (int fine : new int[] {0, 1, 9}) {
                x.fine(fine);
                for (int w : new int[] {0, 1, 2, 98, 99}) {
                    due.is("paid, late " + late + ", fine " + fine + ", weeks " + w, x.paid(2, w), late * fine * w);
                    due.is("paid of one in time", x.paid(1, w), 0);
                }
            }
        }
        due.is("the most", x.paid(2, 99), 4455);
    }

    // ".. at whatever HOUR he comes)"
    private static void paidAtWhateverHourHeComes() {
        LatestSets x = new LatestSets();
        x.member(0, 0, 23);
        x.member(0, 1, 5);
        due.is("he comes at 23", x.comes(0, 0, 0), 23);
        due.is("not later than in time, 5 late for all that", x.paid(0, 1), 5);
        x.member(1, 0, 10);
        due.is("EARLY is not LATE", x.paid(1, 99), 0);
    }

    private static void paidRefusesAtItsEnds() {
        LatestSets x = new LatestSets();
        for (int w : new int[] {-1, 100, Integer.MIN_VALUE, Integer.MAX_VALUE}) {
            due.is("0 in weeks " + w, x.paid(0, w), OUTSIDE);
            due.is("3 in weeks " + w, x.paid(3, w), OUTSIDE);
            due.is("4 in weeks " + w, x.paid(4, w), UNKNOWN);
            due.is("-1 in weeks " + w, x.paid(-1, w), UNKNOWN);
        }
    }

    // "CONTENT of an HOUR: how far it is from BEST, of all MEMBERS together."
    private static void contentOfAllTogether() {
        for (int n = 1; n <= 6; n++) {
            LatestSets x = new LatestSets();
            x.members(n);
            for (int h = 0; h <= 23; h++) {
                due.is("content(" + h + ") of " + n, x.content(h), n * Math.abs(h - 12));
            }
            for (int m = 0; m < n; m++) {
                x.member(m, 2, m % 2 == 0 ? 0 : 23);
            }
            int least = (n + 1) / 2;
            due.is("content(0) of " + n, x.content(0), 23 * (n - least));
            due.is("content(23) of " + n, x.content(23), 23 * least);
            due.is("content(1) of " + n, x.content(1), least + 22 * (n - least));
            for (int m = 0; m < n; m++) {
                x.member(m, 2, 23);
            }
            due.is("the most of " + n, x.content(0), 23 * n);
            due.is("none of " + n, x.content(23), 0);
        }
        LatestSets y = new LatestSets();
        y.members(6);
        y.member(5, 2, 0);
        y.members(5);
        due.is("he who went does not count", y.content(12), 0);
    }

    private static void contentRefusesAtItsEnds() {
        LatestSets x = new LatestSets();
        due.is("content(0)", x.content(0), 48);
        due.is("content(23)", x.content(23), 44);
        for (int h : new int[] {-1, 24, Integer.MIN_VALUE, Integer.MAX_VALUE}) {
            due.is("content(" + h + ")", x.content(h), OUTSIDE);
        }
    }
}
