/** The third part of the document's Terms, sentence by sentence, at its edges: choice, rests, laws, move. */
public final class EdgesOfChoicesTest {
    private static final int NONE = LatestSets.NONE, OUTSIDE = LatestSets.OUTSIDE, UNKNOWN = LatestSets.UNKNOWN;
    private static final Due due = new Due("EdgesOfChoicesTest");

    public static void main(String[] args) {
        oneToFourWeeks();
        lateByFiveAtMost();
        finesTogetherWithHours();
        theFirstByNumbers();
        theOthersAsTold();
        eachWeekOfTheWay();
        noneOfAllWaysIsLess();
        choiceRefusesAtItsEnds();
        restsFromZeroToThree();
        noneHasLess();
        noRestAtAll();
        theFirstMembersDigitFirst();
        theIthRest();
        restsAtTheEndsOfTheDay();
        restsOfHimWhoComesEarly();
        eachNumberOfALaw();
        theFirstOfEqualLaws();
        lawsRefusesAtItsEnds();
        zeroIfItIsSoAsTold();
        laterOrEarlier();
        lateByFiveAtMostToMove();
        eachOfZeroToFive();
        oneToNineWeeks();
        theFewestThenTheLeast();
        eachByHisOwnLateTheSameEachWeek();
        allOfSix();
        moveRefusesAtItsEnds();
        due.end();
    }

    private static void choiceIs(LatestSets x, int member, int from, int cost, int... lates) {
        String call = "choice(" + member + ", " + from + ", " + lates.length + ")";
        due.is(call, x.choice(member, from, lates.length, -1), cost);
        for (int i = 0; i < lates.length; i++) {
            due.is(call + " week " + i, x.choice(member, from, lates.length, i), lates[i]);
        }
    }

    /** One member, of whom a fine and a best are told. */
    private static LatestSets one(int fine, int best) {
        LatestSets x = new LatestSets();
        x.members(1);
        x.fine(fine);
        x.member(0, 2, best);
        return x;
    }

    // "CHOICE of a MEMBER for w WEEKS (1 to 4)"; "HOURS of the WEEKS 1 to w": the told hour does not count.
    private static void oneToFourWeeks() {
        LatestSets x = new LatestSets();
        Due.law(x, "h");
        choiceIs(x, 3, 5, 7, 0);
        choiceIs(x, 3, 5, 14, 0, 0);
        choiceIs(x, 3, 5, 21, 0, 0, 0);
        choiceIs(x, 3, 5, 28, 0, 0, 0, 0);
        choiceIs(x, 3, 23, 44, 0, 0, 0, 0);
        choiceIs(x, 3, 0, 48, 0, 0, 0, 0);
    }

    // "how LATE (0 to 5) he comes in each"
    private static void lateByFiveAtMost() {
        LatestSets x = one(0, 12);
        choiceIs(x, 0, 7, 0, 5);
        choiceIs(x, 0, 6, 1, 5);
        choiceIs(x, 0, 6, 1, 5, 1);
        choiceIs(x, 0, 2, 5, 5, 5);
        choiceIs(x, 0, 1, 7, 5, 5, 1);
        // 5 10 12 12 of 12: 7 and 2.
        choiceIs(x, 0, 0, 9, 5, 5, 2, 0);
        choiceIs(one(0, 23), 0, 0, 42, 5, 5, 5, 5);
        choiceIs(one(0, 0), 0, 0, 0, 0, 0, 0, 0);
        choiceIs(one(0, 0), 0, 23, 92, 0, 0, 0, 0);
    }

    // "how far HOURS .. are from his BEST, each, and FINES, together, are least"
    private static void finesTogetherWithHours() {
        // 3 late at once cost 3 fines; in time he is 3 off in each of 4 weeks.
        choiceIs(one(0, 23), 0, 20, 0, 3, 0, 0, 0);
        choiceIs(one(1, 23), 0, 20, 3, 3, 0, 0, 0);
        choiceIs(one(3, 23), 0, 20, 9, 3, 0, 0, 0);
        choiceIs(one(5, 23), 0, 20, 12, 0, 0, 0, 0);
        choiceIs(one(9, 23), 0, 20, 12, 0, 0, 0, 0);
        // At 23 he comes no later, but pays.
        choiceIs(one(1, 23), 0, 23, 0, 0, 0, 0, 0);
        LatestSets x = one(1, 20);
        x.member(0, 0, 23);
        Due.law(x, "-5l");
        choiceIs(x, 0, 0, 8, 0, 0, 0, 0);
    }

    // "the first by numbers"
    private static void theFirstByNumbers() {
        // 3, 4 and 5 late all come at 23.
        choiceIs(one(0, 23), 0, 20, 0, 3);
        choiceIs(one(0, 23), 0, 23, 0, 0, 0, 0, 0);
        // A fine of 4 costs as much as an hour off in 4 weeks.
        choiceIs(one(4, 23), 0, 20, 12, 0, 0, 0, 0);
        choiceIs(one(2, 23), 0, 20, 6, 0, 0);
        choiceIs(one(1, 23), 0, 20, 3, 0);
        LatestSets x = one(0, 12);
        Due.law(x, "h");
        choiceIs(x, 0, 4, 32, 0, 0, 0, 0);
        // He comes at 15 at the earliest: 0, 1 and 2 late cost 2 in each week.
        LatestSets y = one(1, 12);
        y.member(0, 0, 15);
        Due.law(y, "-5l");
        choiceIs(y, 0, 11, 8, 0, 0, 0, 0);
        y.fine(0);
        choiceIs(y, 0, 11, 0, 2, 2, 2, 2);
        // By half of the hour and when he comes, 2 and 3 late make 12 of 11.
        Due.law(y, "/hl");
        y.member(0, 0, 0);
        choiceIs(y, 0, 11, 0, 2, 0);
    }

    // "the others as told"
    private static void theOthersAsTold() {
        LatestSets x = new LatestSets();
        x.members(2);
        x.fine(0);
        x.member(1, 1, 2);
        choiceIs(x, 0, 11, 1, 0);
        choiceIs(x, 1, 11, 0, 1);
        choiceIs(x, 0, 9, 0, 3);
        x.member(0, 1, 5);
        // His own told LATE does not bind him, the other's does.
        choiceIs(x, 0, 12, 2, 0);
        choiceIs(x, 1, 12, 5, 0);
        due.is("LATE of 0 is left", x.told(20), 5);
        due.is("LATE of 1 is left", x.told(21), 2);
        LatestSets y = one(1, 12);
        y.member(0, 1, 5);
        choiceIs(y, 0, 12, 0, 0, 0, 0, 0);
    }

    // "how LATE in the i-th WEEK": by the hour to which the weeks ahead of it, each by its own, have come.
    private static void eachWeekOfTheWay() {
        LatestSets x = one(1, 8);
        Due.law(x, "-2l");
        // 7 8 8 6 of 8: 1 and 2, and 10 fines.
        choiceIs(x, 0, 4, 13, 5, 3, 2, 0);
        LatestSets y = one(1, 21);
        Due.law(y, "-3l");
        // 19 20 20 17 of 21: 2, 1, 1 and 4, and 12 fines.
        choiceIs(y, 0, 17, 20, 5, 4, 3, 0);
        LatestSets z = one(0, 10);
        Due.law(z, "~l");
        // 14 9 10 10 of 10.
        choiceIs(z, 0, 4, 5, 5, 0, 4, 3);
        Due.law(z, "-2l");
        z.member(0, 2, 13);
        // 16 14 13 13 of 13; 9 12 13 13 of 13.
        choiceIs(z, 0, 18, 4, 0, 0, 1, 2);
        choiceIs(z, 0, 6, 5, 5, 5, 3, 2);
        // In each week by how many are left: 4 8 7 6 of 16, and 20 fines; 9 9 11 7 of 7; 11 7 7 of 5.
        LatestSets paying = one(2, 16);
        Due.law(paying, "-1l");
        choiceIs(paying, 0, 0, 59, 5, 5, 0, 0);
        z.member(0, 2, 7);
        Due.law(z, "~l");
        choiceIs(z, 0, 14, 8, 0, 5, 3, 5);
        z.member(0, 2, 5);
        Due.law(z, "<l~l");
        choiceIs(z, 0, 9, 10, 2, 5, 0);
        // The same by each of three in turn, the others in time and glad of anything.
        for (int m = 0; m < 3; m++) {
            LatestSets three = new LatestSets();
            three.members(3);
            three.fine(0);
            Due.law(three, "-2l");
            three.member(m, 2, 13);
            three.member((m + 1) % 3, 2, 1);
            three.member((m + 2) % 3, 2, 22);
            choiceIs(three, m, 18, 4, 0, 0, 1, 2);
            choiceIs(three, m, 6, 5, 5, 5, 3, 2);
        }
    }

    /** All ways of all weeks, walked by the hours that the face tells of each LATE: the first of the least is due. */
    private static void noneOfAllWaysIsLess() {
        String[] laws = {"l", "-2l", "~l", "/hl", "~/hm", "-3p", "/~lf", "<l~+1l", "-1l",
            "~/hl", "-4l", "<l~l"};
        for (int k = 0; k < laws.length; k++) {
            LatestSets x = new LatestSets();
            int n = 1 + k % 4;
            int member = k % n;
            x.members(n);
            x.fine(k % 3);
            for (int m = 0; m < n; m++) {
                x.member(m, 0, (5 * m + k) % 11);
                x.member(m, 1, (m + 2 * k) % 4);
                x.member(m, 2, (9 + 4 * k + 7 * m) % 24);
            }
            Due.law(x, laws[k]);
            int[][] next = nextByLate(x, member);
            for (int from = k % 3; from <= 23; from += 6) {
                for (int w = 1; w <= 4; w++) {
                    leastOfAllWays(x, member, from, w, next);
                }
            }
        }
    }

    private static int[][] nextByLate(LatestSets x, int member) {
        int[][] next = new int[6][24];
        int told = x.told(20 + member);
        for (int late = 0; late <= 5; late++) {
            x.member(member, 1, late);
            for (int h = 0; h <= 23; h++) {
                next[late][h] = x.hour(h, 1);
            }
        }
        x.member(member, 1, told);
        return next;
    }

    private static void leastOfAllWays(LatestSets x, int member, int from, int w, int[][] next) {
        int best = x.told(30 + member);
        int fine = x.told(2);
        int least = Integer.MAX_VALUE;
        int[] first = null;
        int ways = 1;
        for (int i = 0; i < w; i++) {
            ways *= 6;
        }
        for (int way = 0; way < ways; way++) {
            int[] lates = weeksOf(way, w);
            int hour = from;
            int cost = 0;
            for (int late : lates) {
                hour = next[late][hour];
                cost += Math.abs(hour - best) + fine * late;
            }
            if (cost < least) {
                least = cost;
                first = lates;
            }
        }
        choiceIs(x, member, from, least, first);
    }

    /** Rising with the way: the first week's LATE counts most. */
    private static int[] weeksOf(int way, int w) {
        int[] lates = new int[w];
        int left = way;
        for (int i = w - 1; i >= 0; i--) {
            lates[i] = left % 6;
            left /= 6;
        }
        return lates;
    }

    // "UNKNOWN; OUTSIDE: the HOUR, w, i." with "i 0 to w less 1" and "i = -1"
    private static void choiceRefusesAtItsEnds() {
        LatestSets x = new LatestSets();
        for (int w = 1; w <= 4; w++) {
            for (int i = -1; i < w; i++) {
                due.is("week " + i + " of " + w, x.choice(3, 12, w, i), 0);
                due.is("from -1", x.choice(3, -1, w, i), OUTSIDE);
                due.is("from 24", x.choice(3, 24, w, i), OUTSIDE);
                due.is("no member 4", x.choice(4, 24, w, i), UNKNOWN);
            }
            for (int i : new int[] {-2, w, w + 1, Integer.MIN_VALUE, Integer.MAX_VALUE}) {
                due.is("week " + i + " of " + w, x.choice(3, 12, w, i), OUTSIDE);
                due.is("no member -1, week " + i, x.choice(-1, 12, w, i), UNKNOWN);
            }
        }
        for (int w : new int[] {-1, 0, 5, 6, Integer.MIN_VALUE, Integer.MAX_VALUE}) {
            for (int i = -1; i <= 0; i++) {
                due.is("weeks " + w, x.choice(0, 12, w, i), OUTSIDE);
                due.is("weeks " + w + " of 4", x.choice(4, 12, w, i), UNKNOWN);
            }
        }
    }

    private static void restsAre(LatestSets x, int from, int... all) {
        due.is("rests(" + from + ")", x.rests(from, -1), all.length);
        for (int i = 0; i < all.length; i++) {
            due.is("rests(" + from + ", " + i + ")", x.rests(from, i), all[i]);
        }
        due.is("no rest more", x.rests(from, all.length), NONE);
    }

    // "how LATE (0 to 3) all come in one WEEK"
    private static void restsFromZeroToThree() {
        restsAre(one(0, 12), 12, 0);
        restsAre(one(0, 12), 11, 1);
        restsAre(one(0, 12), 10, 2);
        restsAre(one(0, 12), 9, 3);
        restsAre(one(0, 12), 8, 3);
        restsAre(one(0, 12), 0, 3);
        LatestSets x = one(0, 12);
        x.member(0, 1, 5);
        // How late he is told to be is all the same.
        restsAre(x, 12, 0);
        restsAre(x, 7, 3);
        due.is("LATE is left", x.told(20), 5);
        LatestSets y = new LatestSets();
        y.fine(0);
        y.member(0, 1, 5);
        y.member(1, 1, 4);
        // All but the 4 (1 + 8 + 27) ways in which one alone is the latest.
        due.is("rests of four", y.rests(13, -1), 112);
        due.is("the first, all in time", y.rests(13, 0), 0);
        due.is("the second, two of them late", y.rests(13, 1), 11);
        due.is("the last, all 3 late", y.rests(13, 111), 3333);
        due.is("none behind", y.rests(13, 112), NONE);
    }

    // "so that none has, by another one of 0 to 3, less of": as much is no less.
    private static void noneHasLess() {
        LatestSets x = one(1, 12);
        restsAre(x, 9, 0, 1, 2, 3);
        restsAre(x, 10, 0, 1, 2);
        restsAre(x, 11, 0, 1);
        restsAre(x, 12, 0);
        x.fine(2);
        restsAre(x, 9, 0);
        x.fine(9);
        restsAre(x, 9, 0);
        for (int n = 1; n <= 6; n++) {
            LatestSets y = new LatestSets();
            y.members(n);
            y.fine(0);
            Due.law(y, "h");
            int all = 1 << 2 * n;
            due.is("all rest of " + n, y.rests(7, -1), all);
            due.is("the first of " + n, y.rests(7, 0), 0);
            due.is("the last of " + n, y.rests(7, all - 1), Integer.parseInt("333333".substring(0, n)));
            due.is("none behind it", y.rests(7, all), NONE);
            y.fine(1);
            restsAre(y, 7, 0);
        }
    }

    /** By half of 23 less how far apart they come, one would be near the other, who would not. */
    private static void noRestAtAll() {
        LatestSets x = new LatestSets();
        x.members(2);
        x.fine(0);
        x.member(0, 2, 23);
        x.member(1, 2, 8);
        Due.law(x, "/~lf");
        restsAre(x, 19);
        due.is("i -1", x.rests(19, -1), 0);
        due.is("i -2", x.rests(19, -2), NONE);
        due.is("i 1", x.rests(19, 1), NONE);
    }

    // "(the first MEMBER's digit first, rising)"
    private static void theFirstMembersDigitFirst() {
        LatestSets x = new LatestSets();
        x.members(2);
        x.member(1, 2, 10);
        restsAre(x, 10, 0, 10, 20);
        x.member(0, 2, 10);
        x.member(1, 2, 12);
        restsAre(x, 10, 0, 1, 2);
        LatestSets y = new LatestSets();
        y.members(6);
        for (int m = 0; m < 6; m++) {
            y.member(m, 2, m == 0 || m == 5 ? 12 : 10);
        }
        restsAre(y, 10, 0, 1, 2, 100000, 200000);
        y.fine(0);
        int last = -1;
        int count = y.rests(11, -1);
        for (int i = 0; i < Math.min(count, 300); i++) {
            int rest = y.rests(11, i);
            due.holds("rests rise: " + last + ", " + rest, rest > last);
            last = rest;
        }
    }

    // "how many (i = -1), the i-th ..; NONE (i below -1, too). OUTSIDE: the HOUR."
    private static void theIthRest() {
        LatestSets x = one(1, 12);
        due.is("how many", x.rests(9, -1), 4);
        due.is("the 0-th", x.rests(9, 0), 0);
        due.is("the last", x.rests(9, 3), 3);
        for (int i : new int[] {4, 5, 4095, 4096, Integer.MAX_VALUE, -2, -3, Integer.MIN_VALUE}) {
            due.is("the " + i + "-th", x.rests(9, i), NONE);
        }
        for (int i : new int[] {-2, -1, 0, 4, Integer.MIN_VALUE, Integer.MAX_VALUE}) {
            due.is("from -1, " + i, x.rests(-1, i), OUTSIDE);
            due.is("from 24, " + i, x.rests(24, i), OUTSIDE);
        }
    }

    private static void restsAtTheEndsOfTheDay() {
        // From 23 the hour is 23 whoever is late.
        restsAre(one(0, 12), 23, 0, 1, 2, 3);
        restsAre(one(1, 12), 23, 0);
        restsAre(one(0, 23), 21, 2, 3);
        restsAre(one(0, 23), 22, 1, 2, 3);
        restsAre(one(0, 0), 0, 0);
        restsAre(one(0, 3), 0, 3);
        restsAre(one(0, 4), 0, 3);
    }

    /** Who is early only at 10 comes then, however late the hour. */
    private static void restsOfHimWhoComesEarly() {
        LatestSets x = one(0, 12);
        x.member(0, 0, 10);
        restsAre(x, 0, 2);
        restsAre(x, 9, 2);
        restsAre(x, 10, 2);
        restsAre(x, 11, 1);
        x.member(0, 0, 9);
        restsAre(x, 0, 3);
        x.member(0, 0, 12);
        restsAre(x, 0, 0);
        x.member(0, 0, 22);
        x.member(0, 2, 23);
        restsAre(x, 5, 1, 2, 3);
    }

    private static void lawsAre(LatestSets x, int from, int number, int hour) {
        due.is("laws(" + from + ", 0)", x.laws(from, 0), number);
        due.is("laws(" + from + ", 1)", x.laws(from, 1), hour);
    }

    /** Early and late of each; all of them would have the one hour. */
    private static LatestSets wanting(int best, int... rows) {
        LatestSets x = new LatestSets();
        x.members(rows.length / 2);
        for (int m = 0; m < rows.length / 2; m++) {
            x.member(m, 0, rows[2 * m]);
            x.member(m, 1, rows[2 * m + 1]);
            x.member(m, 2, best);
        }
        return x;
    }

    // "LAWS told by numbers 0 to 23: 6 times which (l, m, p, f), and 0 to 5 (so much less)"
    private static void eachNumberOfALaw() {
        lawsAre(wanting(18, 0, 0), 13, 0, 13);
        lawsAre(wanting(7, 0, 0), 17, 1, 0);
        lawsAre(wanting(0, 0, 1), 8, 2, 0);
        lawsAre(wanting(3, 0, 2), 22, 3, 0);
        lawsAre(wanting(12, 0, 4), 9, 4, 9);
        lawsAre(wanting(4, 0, 5), 10, 5, 10);
        lawsAre(wanting(6, 17, 0, 0, 0), 8, 6, 8);
        lawsAre(wanting(2, 0, 0, 0, 5), 8, 7, 0);
        lawsAre(wanting(11, 20, 0, 0, 2), 14, 8, 14);
        lawsAre(wanting(1, 0, 5, 0, 2), 9, 9, 0);
        lawsAre(wanting(8, 0, 4, 20, 0), 6, 10, 6);
        lawsAre(wanting(0, 0, 5, 6, 0), 20, 11, 1);
        lawsAre(wanting(15, 0, 4, 0, 0, 13, 0, 0, 0), 5, 12, 13);
        lawsAre(wanting(4, 0, 0, 0, 0, 0, 3, 3, 0), 19, 13, 2);
        lawsAre(wanting(10, 0, 3, 0, 0, 12, 0, 0, 0), 11, 14, 10);
        lawsAre(wanting(1, 0, 0, 0, 4, 0, 0, 4, 0), 20, 15, 1);
        lawsAre(wanting(15, 0, 0, 19, 0, 0, 0, 0, 4), 20, 16, 15);
        lawsAre(wanting(10, 0, 0, 18, 0, 17, 0, 0, 0), 21, 17, 12);
        lawsAre(wanting(5, 13, 0, 16, 0, 0, 0), 6, 18, 6);
        lawsAre(wanting(4, 0, 5, 16, 0, 0, 0), 19, 19, 0);
        lawsAre(wanting(2, 0, 2, 4, 0, 0, 4), 21, 20, 2);
        lawsAre(wanting(2, 10, 0, 0, 5, 0, 2), 20, 21, 0);
        lawsAre(wanting(1, 0, 5, 0, 5, 0, 3), 9, 22, 0);
        lawsAre(wanting(6, 0, 5, 0, 5, 16, 0), 16, 23, 11);
    }

    // "of the least CONTENT; the first"
    private static void theFirstOfEqualLaws() {
        LatestSets x = new LatestSets();
        // By l, m, p and f alike it stays.
        lawsAre(x, 12, 0, 12);
        lawsAre(x, 23, 0, 23);
        // By l it stays 11 off; by 1 less it goes to 0, 12 off.
        lawsAre(x, 1, 0, 1);
        lawsAre(x, 0, 0, 0);
        // By l it goes to 23, by 1 less it stays at 1: 11 off either way.
        lawsAre(wanting(12, 0, 1), 1, 0, 23);
        lawsAre(wanting(12, 0, 1), 2, 1, 2);
        // By any less it goes to 0.
        lawsAre(wanting(0, 0, 0), 9, 1, 0);
        // The law in force is all the same, and is left.
        Due.law(x, "~h");
        lawsAre(x, 12, 0, 12);
        due.is("the law in force", x.tends(12, 1), 2);
        // Of all together, not of the one: three would have 0, one 23.
        LatestSets y = new LatestSets();
        for (int m = 0; m < 4; m++) {
            y.member(m, 2, m == 2 ? 23 : 0);
        }
        lawsAre(y, 20, 1, 0);
        y.member(0, 2, 23);
        lawsAre(y, 20, 0, 20);
    }

    private static void lawsRefusesAtItsEnds() {
        LatestSets x = new LatestSets();
        for (int what = 0; what <= 1; what++) {
            due.is("from 0, " + what, x.laws(0, what), 0);
            due.is("from 23, " + what, x.laws(23, what), what == 0 ? 0 : 23);
            due.is("from -1, " + what, x.laws(-1, what), OUTSIDE);
            due.is("from 24, " + what, x.laws(24, what), OUTSIDE);
        }
        for (int what : new int[] {-1, 2, Integer.MIN_VALUE, Integer.MAX_VALUE}) {
            due.is("what " + what, x.laws(12, what), OUTSIDE);
        }
    }

    // "(0, if it is so by all as told)"
    private static void zeroIfItIsSoAsTold() {
        LatestSets x = new LatestSets();
        due.is("it stays", x.move(12, 1, 12), 0);
        x.member(2, 1, 3);
        due.is("3 late as told", x.move(12, 1, 15), 0);
        due.is("one hour more", x.move(12, 1, 16), 1);
        due.is("later than it must be", x.move(12, 1, 13), 0);
        Due.law(x, "-9h");
        due.is("earlier as told", x.move(12, 1, 3), 0);
        due.is("earlier than it must be", x.move(12, 1, 11), 0);
        due.is("not so early", x.move(12, 1, 2), NONE);
    }

    // "is h or later (h or earlier, if h is less than the HOUR)"
    private static void laterOrEarlier() {
        LatestSets x = new LatestSets();
        x.members(1);
        due.is("h is the hour", x.move(12, 1, 12), 0);
        due.is("h is one less", x.move(12, 1, 11), NONE);
        due.is("h is one more", x.move(12, 1, 13), 1);
        Due.law(x, "-1l");
        // As told it is 11.
        due.is("h is the hour: or later", x.move(12, 1, 12), 1);
        due.is("h is one less: or earlier", x.move(12, 1, 11), 0);
        due.is("h is two less", x.move(12, 1, 10), NONE);
        due.is("h is one more", x.move(12, 1, 13), 1);
        due.is("0 from 0: or later", x.move(0, 1, 0), 0);
        due.is("0 from 1: or earlier", x.move(1, 1, 0), 0);
        due.is("23 from 23: or later", x.move(23, 1, 23), NONE);
        due.is("22 from 23: or earlier", x.move(23, 1, 22), 0);
        due.is("0 from 23", x.move(23, 9, 0), NONE);
        due.is("14 from 23, 9 weeks on", x.move(23, 9, 14), 0);
        due.is("13 from 23, 9 weeks on", x.move(23, 9, 13), NONE);
        due.is("23 from 0", x.move(0, 9, 22), 1);
    }

    // "each of them being LATE by some 0 to 5"
    private static void lateByFiveAtMostToMove() {
        LatestSets x = new LatestSets();
        x.members(1);
        due.is("5 late", x.move(12, 1, 17), 1);
        due.is("6 late", x.move(12, 1, 18), NONE);
        due.is("4 weeks of 5", x.move(0, 4, 20), 1);
        due.is("and an hour more", x.move(0, 4, 21), NONE);
        x.member(0, 1, 5);
        Due.law(x, "-5l");
        due.is("in time, though told to be 5 late", x.move(12, 1, 7), 1);
        due.is("not earlier than in time", x.move(12, 1, 6), NONE);
        due.is("LATE is left", x.told(20), 5);
        x.member(0, 1, 0);
        due.is("5 late, though told to be in time", x.move(12, 1, 12), 1);
        due.is("not later than 5", x.move(12, 1, 13), NONE);
        due.is("LATE is left", x.told(20), 0);
    }

    // "by some 0 to 5": each of them, however late he is told to be.
    private static void eachOfZeroToFive() {
        for (int told = 0; told <= 5; told++) {
            for (int only = 0; only <= 5; only++) {
                LatestSets x = new LatestSets();
                x.members(1);
                x.member(0, 1, told);
                // The lesser one of when he comes and 22 less that: 11, if he comes at 11, and less otherwise.
                Due.law(x, "<l~+1l");
                due.is("only by " + only + ", told " + told, x.move(11 - only, 1, 11), only == told ? 0 : 1);
                due.is("12 by none", x.move(11 - only, 1, 12), NONE);
                // The greater one of when he comes and 24 less that, less 9: 3, if he comes at 12, and more otherwise.
                Due.law(x, "-9>l~-1l");
                due.is("earlier only by " + only + ", told " + told, x.move(12 - only, 1, 3), only == told ? 0 : 1);
                due.is("2 by none", x.move(12 - only, 1, 2), NONE);
            }
        }
    }

    // "the HOUR of week w (1 to 9)"
    private static void oneToNineWeeks() {
        LatestSets x = new LatestSets();
        Due.law(x, "-4l");
        // 1 more each week, by one who is 5 late.
        for (int w = 1; w <= 9; w++) {
            due.is(w + " weeks", x.move(5, w, 5 + w), 1);
            due.is(w + " weeks, an hour more", x.move(5, w, 6 + w), NONE);
        }
    }

    // "the least set of MEMBERS (fewest; then the least as bits)"
    private static void theFewestThenTheLeast() {
        LatestSets x = wanting(12, 0, 2, 8, 0, 0, 0);
        Due.law(x, "p");
        // 0 and 1 could, together; so could 2 alone.
        due.is("one goes ahead of two", x.move(2, 2, 9), 4);
        LatestSets y = new LatestSets();
        due.is("the least of four alike", y.move(12, 1, 13), 1);
        y.member(0, 0, 0);
        y.member(2, 0, 14);
        due.is("3 of 12 is less than 2 of 14", y.move(12, 1, 18), 4);
        y.member(3, 0, 14);
        due.is("the least of the two", y.move(12, 1, 18), 4);
        y.member(1, 0, 13);
        due.is("of three", y.move(12, 1, 18), 2);
        Due.law(y, "p");
        // Two must come at 18 or later: those of 13, 14 and 14.
        due.is("the least pair", y.move(12, 1, 18), 6);
        y.member(1, 0, 0);
        due.is("the only pair", y.move(12, 1, 18), 12);
    }

    // "each of them being LATE by some 0 to 5, the same each WEEK, the others as told"
    private static void eachByHisOwnLateTheSameEachWeek() {
        LatestSets x = wanting(12, 0, 0, 8, 4);
        Due.law(x, "~p");
        // Only by 5 of the one and 0 of the other.
        due.is("each by his own", x.move(22, 2, 17), 3);
        due.is("an hour earlier", x.move(22, 2, 16), NONE);
        LatestSets y = new LatestSets();
        y.members(1);
        Due.law(y, "~l");
        // 11 less how late, then 23 less that and how late: 12, if he is as late each week.
        due.is("not later", y.move(12, 2, 13), NONE);
        due.is("not earlier", y.move(12, 2, 11), NONE);
        due.is("but the hour itself", y.move(12, 2, 12), 0);
        due.is("in one week", y.move(12, 1, 6), 1);
        due.is("in one week, an hour earlier", y.move(12, 1, 5), NONE);
    }

    private static void allOfSix() {
        String[] laws = {"l", "p", "m", "f"};
        int[] sets = {1, 3, 15, 63};
        for (int i = 0; i < 4; i++) {
            LatestSets x = new LatestSets();
            x.members(6);
            Due.law(x, laws[i]);
            due.is("of six by " + laws[i], x.move(12, 1, 17), sets[i]);
            due.is("of six by " + laws[i] + ", too far", x.move(12, 1, 18), NONE);
            x.member(5, 1, 5);
            due.is("of six, the last as told, by " + laws[i], x.move(12, 1, 17), sets[i] >> 1);
        }
    }

    // "OUTSIDE: HOURS, w."
    private static void moveRefusesAtItsEnds() {
        LatestSets x = new LatestSets();
        for (int w : new int[] {1, 9}) {
            due.is("from 0 to 0", x.move(0, w, 0), 0);
            due.is("from 23 to 23", x.move(23, w, 23), 0);
            due.is("from 23 to 0", x.move(23, w, 0), NONE);
            due.is("from 0 to 23", x.move(0, w, 23), w == 1 ? NONE : 1);
            due.is("from -1", x.move(-1, w, 0), OUTSIDE);
            due.is("from 24", x.move(24, w, 0), OUTSIDE);
            due.is("to -1", x.move(12, w, -1), OUTSIDE);
            due.is("to 24", x.move(12, w, 24), OUTSIDE);
        }
        for (int w : new int[] {-1, 0, 10, 11, Integer.MIN_VALUE, Integer.MAX_VALUE}) {
            due.is("weeks " + w, x.move(12, w, 12), OUTSIDE);
        }
    }
}
