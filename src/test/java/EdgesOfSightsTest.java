/** The fourth part of the document's Terms, sentence by sentence, at its edges: sights, rain, years, images, told. */
public final class EdgesOfSightsTest {
    private static final int NONE = LatestSets.NONE, OUTSIDE = LatestSets.OUTSIDE, UNKNOWN = LatestSets.UNKNOWN,
        STATE = LatestSets.STATE, FULL = LatestSets.FULL, NO = LatestSets.NO;
    private static final long LOST_OUTSIDE = -1000000000000000002L;
    private static final Due due = new Due("EdgesOfSightsTest");

    public static void main(String[] args) {
        sixSightsAtMost();
        seenRefusesAtItsEnds();
        eachLateAsABit();
        weeksZeroToThirty();
        allSightsHold();
        couldWithOthersAsTold();
        couldRefusesAtItsEnds();
        lowestTermsOfOneWeek();
        lowestTermsOfManyWeeks();
        fromEachHourThroughTheWeeks();
        allEarlyAreLaterIn();
        earlyIsTwentyThreeAtMost();
        rainRefusesAtItsEnds();
        oneToNinetyNineWeeks();
        seedsFromZeroTo9999();
        membersByNumbers();
        moreThanHisLate();
        theLatestOfAll();
        allFines();
        yearRefusesAtItsEnds();
        allButThePadIsKept();
        itIsAsItWas();
        sightsAreAsTheyWere();
        imagesAreTwo();
        toldNumberByNumber();
        toldOfTheLaw();
        due.end();
    }

    private static LatestSets alone(int early, int late) {
        LatestSets x = new LatestSets();
        x.members(1);
        x.member(0, 0, early);
        x.member(0, 1, late);
        return x;
    }

    // "SIGHTS (6 at most ..)"; "A SIGHT more: how many. OUTSIDE; FULL."; "SIGHTS go: how many there were."
    private static void sixSightsAtMost() {
        LatestSets x = new LatestSets();
        due.is("none at first", x.forget(), 0);
        for (int n = 1; n <= 6; n++) {
            due.is("sight " + n, x.seen(n, n), n);
            due.is("sights", x.told(4), n);
        }
        for (int i = 0; i < 3; i++) {
            due.is("the seventh", x.seen(1, 1), FULL);
        }
        due.is("sights", x.told(4), 6);
        due.is("six go", x.forget(), 6);
        due.is("sights", x.told(4), 0);
        due.is("none is left", x.forget(), 0);
        due.is("the first one anew", x.seen(1, 1), 1);
        due.is("one goes", x.forget(), 1);
    }

    private static void seenRefusesAtItsEnds() {
        int[][] taken = {{0, 0}, {0, 23}, {30, 0}, {30, 23}};
        LatestSets x = new LatestSets();
        for (int i = 0; i < 4; i++) {
            due.is("seen " + i, x.seen(taken[i][0], taken[i][1]), i + 1);
        }
        int[][] refused = {{-1, 0}, {31, 0}, {0, -1}, {0, 24}, {31, 24}, {-1, -1},
            {Integer.MIN_VALUE, 0}, {Integer.MAX_VALUE, 0}, {0, Integer.MIN_VALUE}, {0, Integer.MAX_VALUE}};
        for (int[] a : refused) {
            due.is("seen(" + a[0] + ", " + a[1] + ")", x.seen(a[0], a[1]), OUTSIDE);
            due.is("sights", x.told(4), 4);
        }
    }

    // "those LATE (0 to 5), the same each WEEK .. by which all SIGHTS hold .. as bits"
    private static void eachLateAsABit() {
        for (int h = 0; h <= 23; h++) {
            LatestSets x = alone(0, 0);
            x.seen(1, h);
            due.is(h + " in week 1 from 0", x.could(0, 0), h <= 5 ? 1 << h : 0);
            due.is(h + " in week 1 from 18", x.could(0, 18), h >= 18 && h <= 22 ? 1 << h - 18 : h == 23 ? 32 : 0);
            due.is(h + " in week 1 from 20", x.could(0, 20), h >= 20 && h <= 22 ? 1 << h - 20 : h == 23 ? 56 : 0);
            due.is(h + " in week 1 from 23", x.could(0, 23), h == 23 ? 63 : 0);
            x.forget();
            due.is("without a sight", x.could(0, h), 63);
        }
    }

    // "in week w, 0 to 30, the HOUR was h"
    private static void weeksZeroToThirty() {
        for (int h = 0; h <= 23; h++) {
            LatestSets x = alone(0, 3);
            x.seen(0, h);
            due.is("week 0 is the told hour", x.could(0, h), 63);
            due.is("no other hour", x.could(0, (h + 1) % 24), 0);
        }
        LatestSets x = alone(0, 0);
        Due.law(x, "-4l");
        // 1 more each week by 5 late, as far as 19 (23 less 4); no more by 4 or less.
        x.seen(19, 19);
        due.is("week 19", x.could(0, 0), 32);
        x.seen(30, 19);
        due.is("week 30", x.could(0, 0), 32);
        x.forget();
        x.seen(18, 19);
        due.is("week 18", x.could(0, 0), 0);
        x.forget();
        x.seen(30, 0);
        due.is("week 30 of him who is less late", x.could(0, 0), 31);
        x.forget();
        Due.law(x, "~h");
        x.seen(30, 4);
        due.is("week 30 of a ring", x.could(0, 4), 63);
        due.is("week 30 of the other hour", x.could(0, 19), 0);
        x.seen(29, 19);
        due.is("week 29 of a ring", x.could(0, 4), 63);
        x.seen(29, 4);
        due.is("both can not be", x.could(0, 4), 0);
    }

    private static void allSightsHold() {
        for (int wrong = 0; wrong <= 6; wrong++) {
            LatestSets x = alone(0, 0);
            for (int i = 0; i < 6; i++) {
                x.seen(i + 1, 2 * (i + 1) + (i == wrong ? 1 : 0));
            }
            due.is("the sight " + wrong + " is wrong", x.could(0, 0), wrong == 6 ? 4 : 0);
        }
        LatestSets y = alone(0, 0);
        y.seen(5, 23);
        due.is("5 weeks", y.could(0, 0), 1 << 5);
        y.forget();
        y.seen(6, 23);
        due.is("6 weeks", y.could(0, 0), 1 << 4 | 1 << 5);
        y.seen(5, 20);
        due.is("and not sooner", y.could(0, 0), 1 << 4);
    }

    private static void couldWithOthersAsTold() {
        LatestSets x = new LatestSets();
        x.member(2, 1, 3);
        x.seen(1, 13);
        due.is("another one is late already", x.could(0, 10), 15);
        due.is("he who is", x.could(2, 10), 8);
        due.is("LATE is left", x.told(22), 3);
        due.is("and of 0", x.told(20), 0);
        due.is("the hour is left", x.hour(10, 1), 13);
    }

    private static void couldRefusesAtItsEnds() {
        LatestSets x = new LatestSets();
        for (int h : new int[] {0, 23}) {
            due.is("0 from " + h, x.could(0, h), 63);
            due.is("3 from " + h, x.could(3, h), 63);
            due.is("4 from " + h, x.could(4, h), UNKNOWN);
            due.is("-1 from " + h, x.could(-1, h), UNKNOWN);
        }
        for (int h : new int[] {-1, 24, Integer.MIN_VALUE, Integer.MAX_VALUE}) {
            due.is("0 from " + h, x.could(0, h), OUTSIDE);
            due.is("3 from " + h, x.could(3, h), OUTSIDE);
            due.is("4 from " + h, x.could(4, h), UNKNOWN);
        }
    }

    private static void rainIs(LatestSets x, int[] a, long upper, long lower) {
        String call = "rain(" + a[0] + ", " + a[1] + ", " + a[2] + ", " + a[3] + ")";
        long common = common(upper, lower);
        due.is(call + " upper", x.rain(a[0], a[1], a[2], a[3], 0), upper / common);
        due.is(call + " lower", x.rain(a[0], a[1], a[2], a[3], 1), lower / common);
    }

    private static int[] of(int from, int w, int t, int r) {
        return new int[] {from, w, t, r};
    }

    private static long common(long a, long b) {
        return b == 0 ? a : common(b, a % b);
    }

    // "Fractions are told in lowest terms by part: 0 the upper, 1 the lower number"
    private static void lowestTermsOfOneWeek() {
        LatestSets x = new LatestSets();
        for (int t = 0; t <= 10; t++) {
            for (int r = 0; r <= 9; r++) {
                rainIs(x, of(0, 1, t, r), r * t, 10);
            }
        }
        due.is("the mean 0: upper", x.rain(0, 1, 0, 9, 0), 0);
        due.is("the mean 0: lower", x.rain(0, 1, 0, 9, 1), 1);
        due.is("9/2: upper", x.rain(0, 1, 5, 9, 0), 9);
        due.is("9/2: lower", x.rain(0, 1, 5, 9, 1), 2);
        due.is("36/5: upper", x.rain(0, 1, 8, 9, 0), 36);
        due.is("36/5: lower", x.rain(0, 1, 8, 9, 1), 5);
        due.is("2: upper", x.rain(0, 1, 4, 5, 0), 2);
        due.is("2: lower", x.rain(0, 1, 4, 5, 1), 1);
    }

    // "the mean HOUR of week w (0 to 8) from an HOUR"
    private static void lowestTermsOfManyWeeks() {
        for (int t = 0; t <= 10; t++) {
            LatestSets x = new LatestSets();
            long all = 1;
            long dry = 1;
            for (int w = 0; w <= 8; w++) {
                // 9, if it has rained in any of the weeks.
                rainIs(x, of(0, w, t, 9), 9 * (all - dry), all);
                rainIs(x, of(4, w, t, 9), 9 * (all - dry) + 4 * dry, all);
                all *= 10;
                dry *= 10 - t;
            }
        }
        LatestSets y = new LatestSets();
        due.is("week 8, lower", y.rain(0, 8, 1, 9, 1), 100000000);
        due.is("week 8, upper", y.rain(0, 8, 1, 9, 0), 9 * (100000000L - 43046721L));
        due.is("week 8, halves, lower", y.rain(0, 8, 5, 9, 1), 256);
        due.is("week 8, halves, upper", y.rain(0, 8, 5, 9, 0), 2295);
        for (int h = 0; h <= 23; h++) {
            rainIs(y, of(h, 0, 5, 9), h, 1);
        }
    }

    // "the mean HOUR of week w": whatever the hour in the weeks ahead of it, 0 and 23 too.
    private static void fromEachHourThroughTheWeeks() {
        LatestSets x = new LatestSets();
        Due.law(x, "h");
        for (int h = 0; h <= 23; h++) {
            rainIs(x, of(h, 1, 3, 9), h, 1);
            rainIs(x, of(h, 8, 3, 9), h, 1);
        }
        // 14, or 23 in rain, and 23 for good.
        LatestSets y = alone(14, 0);
        long all = 10;
        long dry = 7;
        for (int w = 1; w <= 8; w++) {
            rainIs(y, of(0, w, 3, 9), 23 * all - 9 * dry, all);
            rainIs(y, of(23, w, 3, 9), 23, 1);
            all *= 10;
            dry *= 7;
        }
        // 23 and 0 in turn, but 14 of 0 in rain; 9 of 14 in either weather.
        LatestSets z = alone(0, 0);
        Due.law(z, "~l");
        rainIs(z, of(0, 1, 5, 9), 37, 2);
        rainIs(z, of(0, 2, 5, 9), 9, 2);
        rainIs(z, of(23, 1, 5, 9), 0, 1);
        rainIs(z, of(23, 2, 5, 9), 37, 2);
        rainIs(z, of(23, 3, 5, 9), 9, 2);
    }

    // "in each WEEK with t tenths it rains, all EARLY are then later by r"
    private static void allEarlyAreLaterIn() {
        LatestSets x = new LatestSets();
        x.members(2);
        x.member(0, 0, 4);
        x.member(1, 0, 9);
        Due.law(x, "f");
        rainIs(x, of(0, 1, 10, 3), 7, 1);
        rainIs(x, of(0, 1, 5, 3), 11, 2);
        Due.law(x, "l");
        rainIs(x, of(0, 1, 10, 3), 12, 1);
        // Later by 3 in each week anew, not by 6 and 9; not later than the hour.
        rainIs(x, of(0, 3, 10, 3), 12, 1);
        rainIs(x, of(13, 8, 10, 3), 13, 1);
        rainIs(x, of(0, 1, 10, 0), 9, 1);
        x.member(1, 1, 2);
        rainIs(x, of(0, 1, 10, 3), 14, 1);
        rainIs(x, of(0, 2, 10, 3), 16, 1);
        due.is("EARLY is left", x.told(10), 4);
        due.is("EARLY of 1 is left", x.told(11), 9);
        due.is("the hour is dry", x.hour(0, 1), 11);
    }

    // "(0 to 9; 23 at most)"
    private static void earlyIsTwentyThreeAtMost() {
        int[] early = {0, 13, 14, 15, 22, 23};
        int[] hours = {6, 19, 20, 20, 20, 20};
        for (int i = 0; i < early.length; i++) {
            LatestSets x = alone(early[i], 0);
            Due.law(x, "-3l");
            rainIs(x, of(0, 1, 10, 9), hours[i], 1);
            x.member(0, 1, 5);
            rainIs(x, of(0, 1, 10, 9), Math.min(23, early[i] + 14) - 3, 1);
        }
    }

    private static void rainRefusesAtItsEnds() {
        LatestSets x = new LatestSets();
        int[] least = {0, 0, 0, 0, 0};
        int[] most = {23, 8, 10, 9, 1};
        for (int j = 0; j < 5; j++) {
            int[][] edges = {least.clone(), most.clone()};
            for (int[] a : edges) {
                due.is("rain", x.rain(a[0], a[1], a[2], a[3], a[4]), a == edges[0] ? 0 : 1);
                for (int v : new int[] {least[j] - 1, most[j] + 1, Integer.MIN_VALUE, Integer.MAX_VALUE}) {
                    a[j] = v;
                    due.is("number " + j + " is " + v, x.rain(a[0], a[1], a[2], a[3], a[4]), LOST_OUTSIDE);
                }
            }
        }
    }

    private static void yearIs(LatestSets x, int[] a, int last, int latest, int fines) {
        String call = "year(" + a[0] + ", " + a[1] + ", " + a[2] + ")";
        due.is(call + " last", x.year(a[0], a[1], a[2], 0), last);
        due.is(call + " latest", x.year(a[0], a[1], a[2], 1), latest);
        due.is(call + " fines", x.year(a[0], a[1], a[2], 2), fines);
    }

    private static int[] of(int seed, int w, int from) {
        return new int[] {seed, w, from};
    }

    /** How many hours late all drawn ones are together: x left over by 3, as often as there are draws. */
    private static int drawn(int seed, int draws) {
        long x = seed;
        int sum = 0;
        for (int i = 0; i < draws; i++) {
            x = (75 * x + 74) % 65537;
            sum += (int) (x % 3);
        }
        return sum;
    }

    // "of w WEEKS (1 to 99) from an HOUR"
    private static void oneToNinetyNineWeeks() {
        LatestSets x = alone(0, 0);
        int hour = 0;
        for (int w = 1; w <= 99; w++) {
            hour = Math.min(23, drawn(77, w));
            yearIs(x, of(77, w, 0), hour, hour, drawn(77, w));
        }
        due.is("99 weeks bring it to 23", hour, 23);
        yearIs(x, of(77, 99, 23), 23, 23, drawn(77, 99));
        Due.law(x, "h");
        yearIs(x, of(77, 1, 5), 5, 5, drawn(77, 1));
        yearIs(x, of(77, 99, 0), 0, 0, drawn(77, 99));
    }

    // "A YEAR by a seed (0 to 9999)": x becomes 74, 5624, 28652, 51790 of 0; 29092, 19253, 2235, 36625 of 9999.
    private static void seedsFromZeroTo9999() {
        LatestSets x = alone(0, 0);
        int[] zero = {2, 4, 6, 7};
        int[] most = {1, 3, 3, 4};
        for (int w = 1; w <= 4; w++) {
            yearIs(x, of(0, w, 0), zero[w - 1], zero[w - 1], zero[w - 1]);
            yearIs(x, of(9999, w, 0), most[w - 1], most[w - 1], most[w - 1]);
        }
        // 149 of 1, which is 2 left over by 3; then 11249, which is 2.
        yearIs(x, of(1, 1, 0), 2, 2, 2);
        yearIs(x, of(1, 2, 0), 4, 4, 4);
    }

    // "for MEMBERS by numbers x becomes (75 x and 74) left over by 65537, in each WEEK"
    private static void membersByNumbers() {
        LatestSets x = new LatestSets();
        // 2 2 2 1 are late of seed 0, 1 2 0 1 of 9999: the first by f is who is least late.
        int[][] each = {{2, 2, 2, 1}, {1, 2, 0, 1}};
        int[] seeds = {0, 9999};
        for (int s = 0; s < 2; s++) {
            for (int m = 0; m < 4; m++) {
                LatestSets y = new LatestSets();
                for (int other = 0; other < 4; other++) {
                    y.member(other, 0, other == m ? 10 : 0);
                }
                yearIs(y, of(seeds[s], 1, 0), 10 + each[s][m], 10 + each[s][m], drawn(seeds[s], 4));
            }
        }
        yearIs(x, of(9999, 1, 0), 2, 2, 4);
        Due.law(x, "f");
        yearIs(x, of(9999, 1, 0), 0, 0, 4);
        yearIs(x, of(0, 1, 0), 1, 1, 7);
        for (int n = 1; n <= 6; n++) {
            x.members(n);
            due.is("fines of " + n, x.year(123, 50, 0, 2), drawn(123, 50 * n));
        }
    }

    // "he is LATE by his LATE, and (x left over by 3) more"
    private static void moreThanHisLate() {
        for (int late = 0; late <= 5; late++) {
            LatestSets x = alone(0, late);
            yearIs(x, of(0, 1, 0), late + 2, late + 2, late + 2);
            yearIs(x, of(0, 2, 0), 2 * late + 4, 2 * late + 4, 2 * late + 4);
            due.is("LATE is left", x.told(20), late);
            yearIs(x, of(0, 1, 22), 23, 23, late + 2);
        }
        // 23 at most he comes: by 7 less it is 16, not 23.
        LatestSets y = alone(23, 5);
        Due.law(y, "-7l");
        yearIs(y, of(0, 1, 0), 16, 16, 7);
    }

    // "the latest of all (the told one, too)"
    private static void theLatestOfAll() {
        LatestSets x = alone(0, 0);
        Due.law(x, "-3l");
        yearIs(x, of(0, 1, 20), 19, 20, 2);
        yearIs(x, of(0, 99, 20), 0, 20, drawn(0, 99));
        LatestSets y = alone(0, 0);
        Due.law(y, "~l");
        // 0, 21, then 23 less 23: the latest is on the way.
        yearIs(y, of(0, 2, 0), 0, 21, 4);
        LatestSets z = alone(0, 0);
        yearIs(z, of(0, 2, 5), 9, 9, 4);
    }

    // "all FINES"
    private static void allFines() {
        for (int fine = 0; fine <= 9; fine++) {
            LatestSets x = new LatestSets();
            x.members(6);
            x.fine(fine);
            for (int m = 0; m < 6; m++) {
                x.member(m, 1, 5);
            }
            due.is("fines by " + fine, x.year(9999, 99, 23, 2), fine * (5 * 6 * 99 + drawn(9999, 6 * 99)));
            due.is("fines of a week by " + fine, x.year(9999, 1, 23, 2), fine * (30 + drawn(9999, 6)));
        }
    }

    private static void yearRefusesAtItsEnds() {
        LatestSets x = new LatestSets();
        int[] least = {0, 1, 0, 0};
        int[] most = {9999, 99, 23, 2};
        for (int j = 0; j < 4; j++) {
            for (int side = 0; side < 2; side++) {
                int[] a = side == 0 ? least.clone() : most.clone();
                due.holds("taken", x.year(a[0], a[1], a[2], a[3]) >= 0);
                for (int v : new int[] {least[j] - 1, most[j] + 1, Integer.MIN_VALUE, Integer.MAX_VALUE}) {
                    a[j] = v;
                    due.is("number " + j + " is " + v, x.year(a[0], a[1], a[2], a[3]), OUTSIDE);
                }
            }
        }
    }

    // "All but the PAD is kept in an IMAGE (0, 1): 1."
    private static void allButThePadIsKept() {
        LatestSets x = new LatestSets();
        Due.write(x, "~h");
        due.is("image(0), two signs on the pad", x.image(0), 1);
        due.is("they are left", x.told(0), 2);
        x.wipe();
        due.is("restore(0), none on the pad", x.restore(0), 1);
        due.is("none comes back", x.told(0), 0);
        due.is("the fault of none", x.fault(), 0);
        due.is("NO", x.enact(), NO);
        Due.write(x, "-1f");
        due.is("restore(0), three on the pad", x.restore(0), 1);
        due.is("three are left", x.told(0), 3);
        due.is("enact them", x.enact(), 3);
        due.is("they are the law", x.hour(9, 1), 8);
        for (int i = 0; i < 48; i++) {
            x.say('h');
        }
        x.restore(0);
        due.is("the full pad stays full", x.say('h'), FULL);
        due.is("the law is l again", x.told(40), 'l');
    }

    // "It is as it was when it was kept: 1."
    private static void itIsAsItWas() {
        LatestSets x = new LatestSets();
        String longest = "-1-1-1-1-1-1-1-1~-9l";
        x.members(6);
        for (int m = 0; m < 6; m++) {
            x.member(m, 0, 23 - m);
            x.member(m, 1, m);
            x.member(m, 2, 2 * m);
            x.seen(m + 3, m + 10);
        }
        x.fine(9);
        due.is("20 signs", Due.law(x, longest), 20);
        due.is("image(1)", x.image(1), 1);
        x.members(1);
        x.fine(0);
        Due.law(x, "h");
        x.seen(0, 0);
        for (int again = 0; again < 2; again++) {
            due.is("restore(1)", x.restore(1), 1);
            due.is("members", x.told(1), 6);
            due.is("fine", x.told(2), 9);
            due.is("law", x.told(3), 20);
            due.is("sights", x.told(4), 6);
            due.is("no room for a seventh", x.seen(0, 0), FULL);
            for (int m = 0; m < 6; m++) {
                due.is("early", x.told(10 + m), 23 - m);
                due.is("late", x.told(20 + m), m);
                due.is("best", x.told(30 + m), 2 * m);
            }
            for (int i = 0; i < 20; i++) {
                due.is("sign " + i, x.told(40 + i), longest.charAt(i));
            }
            x.members(3);
            x.member(2, 1, 1);
            Due.law(x, "m");
        }
        x.image(1);
        x.members(5);
        x.restore(1);
        due.is("the image was written over: members", x.told(1), 3);
        due.is("no member 3", x.member(3, 0, 0), UNKNOWN);
        due.is("its law", x.told(3), 1);
        due.is("no sight", x.told(4), 0);
    }

    // The SIGHTS, too: their number, weeks and hours.
    private static void sightsAreAsTheyWere() {
        LatestSets x = alone(0, 0);
        x.seen(2, 4);
        x.image(0);
        x.forget();
        x.seen(4, 4);
        x.image(1);
        x.forget();
        x.seen(2, 10);
        due.is("10 in week 2", x.could(0, 0), 1 << 5);
        x.restore(0);
        due.is("4 in week 2", x.could(0, 0), 1 << 2);
        x.restore(1);
        due.is("4 in week 4", x.could(0, 0), 1 << 1);
        x.seen(2, 2);
        due.is("and 2 in week 2", x.could(0, 0), 1 << 1);
        x.restore(0);
        due.is("one sight", x.forget(), 1);
        x.restore(0);
        x.seen(4, 8);
        due.is("4 in week 2 and 8 in week 4", x.could(0, 0), 1 << 2);
        x.restore(1);
        due.is("4 in week 4 alone", x.could(0, 0), 1 << 1);
        for (int i = 0; i < 5; i++) {
            x.seen(i, i);
        }
        x.image(0);
        x.forget();
        x.restore(0);
        due.is("all six", x.could(0, 0), 1 << 1);
        due.is("six", x.forget(), 6);
    }

    // "an IMAGE (0, 1)"; "OUTSIDE; STATE: it was not."
    private static void imagesAreTwo() {
        for (int n = 0; n < 2; n++) {
            LatestSets x = new LatestSets();
            due.is("none is kept", x.restore(n), STATE);
            due.is("image", x.image(n), 1);
            due.is("the other one is not", x.restore(1 - n), STATE);
            x.fine(4);
            due.is("the other one", x.image(1 - n), 1);
            x.fine(5);
            x.members(2);
            due.is("restore", x.restore(n), 1);
            due.is("its fine", x.told(2), 1);
            due.is("restore the other one", x.restore(1 - n), 1);
            due.is("the other fine", x.told(2), 4);
            due.is("members", x.told(1), 4);
            due.is("restore", x.restore(n), 1);
            due.is("its fine is as it was", x.told(2), 1);
            for (int out : new int[] {-1, 2, Integer.MIN_VALUE, Integer.MAX_VALUE}) {
                due.is("image(" + out + ")", x.image(out), OUTSIDE);
                due.is("restore(" + out + ")", x.restore(out), OUTSIDE);
            }
        }
        LatestSets y = new LatestSets();
        LatestSets z = new LatestSets();
        y.image(0);
        due.is("another object's image", z.restore(0), STATE);
    }

    // "0 signs, 1 MEMBERS, 2 FINE, 3 SIGNS of the LAW, 4 SIGHTS, 10 to 15 EARLY, 20 to 25 LATE, 30 to 35 BEST ..
    // OUTSIDE (also of MEMBERS that there are not)."
    private static void toldNumberByNumber() {
        for (int n = 1; n <= 6; n++) {
            LatestSets x = new LatestSets();
            x.members(n);
            for (int m = 0; m < n; m++) {
                x.member(m, 0, 7 + m);
                x.member(m, 1, 5 - m);
                x.member(m, 2, 17 + m);
            }
            x.fine(8);
            x.seen(1, 1);
            x.seen(2, 2);
            Due.law(x, "-6f");
            Due.write(x, "12345");
            int[] first = {5, n, 8, 3, 2};
            for (int what = -50; what <= 150; what++) {
                int m = what % 10;
                int row = what / 10;
                int want = OUTSIDE;
                if (what >= 0 && what <= 4) {
                    want = first[what];
                } else if (what >= 40 && what <= 42) {
                    want = "-6f".charAt(what - 40);
                } else if (what >= 10 && what < 40 && m < n) {
                    want = row == 1 ? 7 + m : row == 2 ? 5 - m : 17 + m;
                }
                due.is("told(" + what + ") of " + n, x.told(what), want);
            }
        }
    }

    // "40 on codes of the LAW (as many as there are)"
    private static void toldOfTheLaw() {
        StringBuilder law = new StringBuilder("h");
        for (int k = 1; k <= 20; k++) {
            LatestSets x = new LatestSets();
            due.is("enact", Due.law(x, law.toString()), k);
            due.is("signs", x.told(3), k);
            due.is("the last sign", x.told(39 + k), 'h');
            due.is("the first sign", x.told(40), k == 1 ? 'h' : '~');
            due.is("none behind", x.told(40 + k), OUTSIDE);
            due.is("none ahead", x.told(39), OUTSIDE);
            due.is("enact l", Due.law(x, "l"), 1);
            due.is("of one sign again", x.told(41), OUTSIDE);
            law.insert(0, '~');
        }
        LatestSets y = new LatestSets();
        due.is("21 signs", Due.law(y, law.toString()), NO);
        due.is("told(60)", y.told(60), OUTSIDE);
        for (int what : new int[] {Integer.MIN_VALUE, Integer.MAX_VALUE, Integer.MIN_VALUE + 40,
            Integer.MAX_VALUE - 7, -2147483608, NONE}) {
            due.is("told(" + what + ")", y.told(what), OUTSIDE);
        }
    }
}
