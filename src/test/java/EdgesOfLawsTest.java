import java.util.ArrayList;
import java.util.List;

/** The first part of the document's Terms, sentence by sentence, at its edges: hours, members, pad and law. */
public final class EdgesOfLawsTest {
    private static final int NONE = LatestSets.NONE, OUTSIDE = LatestSets.OUTSIDE, UNKNOWN = LatestSets.UNKNOWN,
        NO = LatestSets.NO, FULL = LatestSets.FULL;
    private static final Due due = new Due("EdgesOfLawsTest");

    public static void main(String[] args) {
        membersAreZeroToNLessOne();
        rowsAreAsAtFirst();
        numbersOfMembersAtTheirEnds();
        fineFromZeroToNine();
        theGreaterOneOfHourAndEarly();
        twentyThreeAtMost();
        fortyEightSignsAtMost();
        codesFrom33To126();
        eachPlaceInTheOrder();
        ofTwoMiddleOnesTheEarlier();
        latestIfThereIsOneMember();
        cutTowardsZero();
        twentyThreeLessIt();
        eachDigit();
        zeroAtLeastTwentyThreeAtMost();
        inBetweenBeyond();
        anyCodeAsTheFirstSign();
        anyCodeAsADigit();
        anyCodeBehindAWholeLaw();
        moreMustCome();
        twentySignsAtMost();
        thePadIsEmptyThen();
        theLawStaysUntilTheNext();
        due.end();
    }

    /** A guild of n with the rows told member by member: early, late. */
    private static LatestSets guild(int... rows) {
        LatestSets x = new LatestSets();
        x.members(rows.length / 2);
        for (int m = 0; m < rows.length / 2; m++) {
            x.member(m, 0, rows[2 * m]);
            x.member(m, 1, rows[2 * m + 1]);
        }
        return x;
    }

    /** The next hour of one by a law. */
    private static int by(LatestSets x, String law, int from) {
        due.is("enact " + law, Due.law(x, law), law.length());
        return x.hour(from, 1);
    }

    private static String repeat(String s, int times) {
        StringBuilder b = new StringBuilder();
        for (int i = 0; i < times; i++) {
            b.append(s);
        }
        return b.toString();
    }

    // "MEMBERS 0 to n less 1 (n 1 to 6; 4 at first)"
    private static void membersAreZeroToNLessOne() {
        for (int n = 1; n <= 6; n++) {
            LatestSets x = new LatestSets();
            due.is("members at first", x.members(n), 4);
            for (int m : new int[] {-1, n, n + 1, 6, Integer.MIN_VALUE, Integer.MAX_VALUE}) {
                String of = m + " of " + n;
                due.is("member " + of, x.member(m, 0, 0), UNKNOWN);
                due.is("comes " + of, x.comes(m, 0, 0), UNKNOWN);
                due.is("paid " + of, x.paid(m, 0), UNKNOWN);
                due.is("choice " + of, x.choice(m, 0, 1, -1), UNKNOWN);
                due.is("could " + of, x.could(m, 0), UNKNOWN);
            }
            for (int m : new int[] {0, n - 1}) {
                String of = m + " of " + n;
                due.is("member " + of, x.member(m, 0, 0), 0);
                due.is("comes " + of, x.comes(m, 3, 0), 3);
                due.is("paid " + of, x.paid(m, 9), 0);
                due.is("choice " + of, x.choice(m, 12, 1, -1), 0);
                due.is("could " + of, x.could(m, 0), 63);
            }
        }
    }

    // "EARLY (0 at first), LATE (0 at first), BEST (12 at first)"; "EARLY, LATE, BEST, SIGHTS are as at first."
    private static void rowsAreAsAtFirst() {
        for (int from = 1; from <= 6; from++) {
            for (int to = 1; to <= 6; to++) {
                LatestSets x = new LatestSets();
                x.members(from);
                for (int m = 0; m < from; m++) {
                    x.member(m, 0, 1 + m);
                    x.member(m, 1, 5);
                    x.member(m, 2, 13 + m);
                }
                for (int i = 0; i < 6; i++) {
                    x.seen(i, i);
                }
                due.is("members(" + to + ")", x.members(to), from);
                due.is("sights", x.told(4), 0);
                for (int m = 0; m < 6; m++) {
                    due.is("early " + m + " of " + to, x.told(10 + m), m < to ? 0 : OUTSIDE);
                    due.is("late " + m + " of " + to, x.told(20 + m), m < to ? 0 : OUTSIDE);
                    due.is("best " + m + " of " + to, x.told(30 + m), m < to ? 12 : OUTSIDE);
                }
                due.is("the sights are gone indeed", x.could(0, 9), 63);
                due.is("the first one anew", x.seen(0, 9), 1);
            }
        }
    }

    // "EARLY (0 to 23 ..), LATE (0 to 5 ..), BEST (0 to 23 ..)"
    private static void numbersOfMembersAtTheirEnds() {
        int[] first = {0, 0, 12};
        int[] most = {23, 5, 23};
        for (int n = 1; n <= 6; n++) {
            for (int m = 0; m < n; m++) {
                LatestSets x = new LatestSets();
                x.members(n);
                for (int what = 0; what < 3; what++) {
                    String row = "row " + what + " of " + m;
                    int told = 10 * (what + 1) + m;
                    due.is(row + " most", x.member(m, what, most[what]), first[what]);
                    due.is(row + " told", x.told(told), most[what]);
                    due.is(row + " above", x.member(m, what, most[what] + 1), OUTSIDE);
                    due.is(row + " stays", x.told(told), most[what]);
                    due.is(row + " least", x.member(m, what, 0), most[what]);
                    due.is(row + " below", x.member(m, what, -1), OUTSIDE);
                    due.is(row + " stays", x.told(told), 0);
                }
                due.is("no row -1", x.member(m, -1, 0), OUTSIDE);
                due.is("no row 3", x.member(m, 3, 0), OUTSIDE);
                for (int other = 0; other < n; other++) {
                    due.is("another's best", x.told(30 + other), other == m ? 0 : 12);
                }
            }
        }
    }

    // "FINE (0 to 9; 1 at first)"
    private static void fineFromZeroToNine() {
        LatestSets x = new LatestSets();
        due.is("at first", x.fine(1), 1);
        for (int v = 0; v <= 9; v++) {
            due.is("fine(" + v + ")", x.fine(v), v == 0 ? 1 : v - 1);
            due.is("fine(10)", x.fine(10), OUTSIDE);
            due.is("fine(-1)", x.fine(-1), OUTSIDE);
            due.is("fine is told", x.told(2), v);
        }
    }

    // "each comes at the greater one of H and EARLY, and LATE"
    private static void theGreaterOneOfHourAndEarly() {
        LatestSets x = guild(10, 0, 10, 5, 0, 0);
        int[] from = {0, 9, 10, 11};
        int[] at = {10, 10, 10, 11};
        for (int i = 0; i < from.length; i++) {
            due.is("in time from " + from[i], x.comes(0, from[i], 0), at[i]);
            due.is("5 late from " + from[i], x.comes(1, from[i], 0), at[i] + 5);
            due.is("EARLY 0 from " + from[i], x.comes(2, from[i], 0), from[i]);
        }
    }

    // ".. 23 at most."
    private static void twentyThreeAtMost() {
        LatestSets x = guild(0, 5, 18, 5, 19, 5, 23, 0, 23, 5, 22, 1);
        int[] from = {0, 17, 18, 19, 22, 23};
        int[][] at = {{5, 22, 23, 23, 23, 23}, {23, 23, 23, 23, 23, 23}, {23, 23, 23, 23, 23, 23},
            {23, 23, 23, 23, 23, 23}, {23, 23, 23, 23, 23, 23}, {23, 23, 23, 23, 23, 23}};
        for (int m = 0; m < 6; m++) {
            for (int i = 0; i < from.length; i++) {
                due.is("comes " + m + " from " + from[i], x.comes(m, from[i], 0), at[m][i]);
            }
        }
        // The latest comes at 23, not at 28: 9 less is 14.
        due.is("the law takes 23, too", by(guild(23, 5), "-9l", 0), 14);
        due.is("22 is not cut", by(guild(20, 2), "-9l", 0), 13);
    }

    // "a PAD (48 SIGNS at most"
    private static void fortyEightSignsAtMost() {
        LatestSets x = new LatestSets();
        due.is("the empty pad", x.told(0), 0);
        due.is("no sign goes", x.wipe(), 0);
        for (int n = 1; n <= 48; n++) {
            due.is("sign " + n, x.say('~'), n);
            due.is("signs", x.told(0), n);
        }
        for (int i = 0; i < 3; i++) {
            due.is("the 49th", x.say('~'), FULL);
        }
        due.is("signs", x.told(0), 48);
        due.is("48 go", x.wipe(), 48);
        due.is("none is left", x.wipe(), 0);
        due.is("the empty pad's fault", x.fault(), 0);
        due.is("the first one anew", x.say('l'), 1);
    }

    // "codes 33 to 126"
    private static void codesFrom33To126() {
        LatestSets x = new LatestSets();
        for (int code = 33; code <= 126; code++) {
            due.is("say(" + code + ")", x.say(code), 1);
            due.is("it goes", x.wipe(), 1);
        }
        for (int code : new int[] {32, 31, 10, 9, 0, -1, -33, 127, 128, 160, 255, 256 + 'l', 65536 + 'l',
            Integer.MIN_VALUE, Integer.MAX_VALUE, Integer.MIN_VALUE + 'l'}) {
            due.is("say(" + code + ")", x.say(code), OUTSIDE);
            due.is("no sign", x.told(0), 0);
        }
    }

    private static void orders(List<int[]> all, int[] row, int at) {
        if (at == row.length) {
            all.add(row.clone());
        }
        for (int i = at; i < row.length; i++) {
            swap(row, at, i);
            orders(all, row, at + 1);
            swap(row, at, i);
        }
    }

    private static void swap(int[] row, int i, int j) {
        int v = row[i];
        row[i] = row[j];
        row[j] = v;
    }

    // "l (the latest), f (the first), m (the middle one of all in order ..), p (the latest but one ..)"
    private static void eachPlaceInTheOrder() {
        for (int n = 1; n <= 5; n++) {
            int[] times = new int[n];
            for (int m = 0; m < n; m++) {
                times[m] = 3 + 2 * m;
            }
            List<int[]> all = new ArrayList<>();
            orders(all, times.clone(), 0);
            for (int[] order : all) {
                LatestSets x = new LatestSets();
                x.members(n);
                for (int m = 0; m < n; m++) {
                    x.member(m, 0, order[m]);
                }
                due.is("l", by(x, "l", 0), times[n - 1]);
                due.is("f", by(x, "f", 0), 3);
                due.is("m", by(x, "m", 0), times[(n + 1) / 2 - 1]);
                due.is("p", by(x, "p", 0), n == 1 ? 3 : times[n - 2]);
                due.is("h", by(x, "h", 1), 1);
            }
        }
    }

    // "of two middle ones the earlier"
    private static void ofTwoMiddleOnesTheEarlier() {
        due.is("of two", by(guild(9, 0, 4, 0), "m", 0), 4);
        due.is("of three", by(guild(9, 0, 4, 0, 6, 0), "m", 0), 6);
        due.is("of four", by(guild(9, 0, 4, 0, 6, 0, 2, 0), "m", 0), 4);
        due.is("of five", by(guild(9, 0, 4, 0, 6, 0, 2, 0, 1, 0), "m", 0), 4);
        due.is("of six", by(guild(9, 0, 4, 0, 6, 0, 2, 0, 1, 0, 5, 0), "m", 0), 4);
        due.is("of four, two alike", by(guild(8, 0, 3, 0, 8, 0, 3, 0), "m", 0), 3);
        due.is("of four, three alike", by(guild(8, 0, 8, 0, 8, 0, 3, 0), "m", 0), 8);
    }

    // "p (the latest but one; the latest, if n is 1)"
    private static void latestIfThereIsOneMember() {
        due.is("p of one", by(guild(7, 3), "p", 2), 10);
        due.is("m of one", by(guild(7, 3), "m", 2), 10);
        due.is("f of one", by(guild(7, 3), "f", 2), 10);
        due.is("l of one", by(guild(7, 3), "l", 2), 10);
        due.is("p of two", by(guild(7, 3, 6, 0), "p", 2), 6);
        due.is("p of six", by(guild(1, 0, 2, 0, 3, 0, 9, 0, 5, 0, 6, 0), "p", 0), 6);
        due.is("p of two latest ones", by(guild(7, 3, 6, 0, 9, 1), "p", 2), 10);
    }

    // "/ T T (their sum by 2, cut towards 0)"
    private static void cutTowardsZero() {
        LatestSets x = new LatestSets();
        int[] below = {5, 5, 4, 4, 3, 3, 2, 2, 1, 1};
        int[] above = {5, 5, 6, 6, 7, 7, 8, 8, 9, 9};
        for (int d = 0; d <= 9; d++) {
            // From the hour 0 the sum is d less, or more, than 0; 5 more keeps it in sight.
            due.is("half of -" + d, by(x, "+5/-" + d + "hh", 0), below[d]);
            due.is("half of " + d, by(x, "+5/+" + d + "hh", 0), above[d]);
        }
        due.is("half of -9 and -8", by(x, "+9/-9h-8h", 0), 1);
        due.is("half of -9 and 4", by(x, "+9/-9h+4h", 0), 7);
        due.is("half of 9 and -4", by(x, "/+9h-4h", 0), 2);
    }

    // "~ T (23 less it)"
    private static void twentyThreeLessIt() {
        LatestSets x = new LatestSets();
        Due.law(x, "~h");
        for (int h = 0; h <= 23; h++) {
            due.is("~ of " + h, x.hour(h, 1), 23 - h);
        }
        due.is("~ of -9 less 9", by(x, "-9~-9h", 0), 23);
        due.is("~ of -9 less 9 and 1", by(x, "-1-9~-9h", 0), 22);
        due.is("~ of 32 and 9", by(x, "+9~+9h", 23), 0);
        due.is("~ of 32 and 9 and 1", by(x, "+1+9~+9h", 23), 1);
    }

    // "- and a digit 0 to 9, T (so much less); + and a digit, T (more)"
    private static void eachDigit() {
        LatestSets x = new LatestSets();
        for (int d = 0; d <= 9; d++) {
            due.is(d + " less", by(x, "-" + d + "h", 12), 12 - d);
            due.is(d + " more", by(x, "+" + d + "h", 12), 12 + d);
        }
        due.is("each its own digit", by(x, "-1+5-3h", 12), 13);
        due.is("each its own digit in two parts", by(x, "/-1h+5-2h", 12), 13);
    }

    // "What comes out at the end is 0 at least, 23 at most"
    private static void zeroAtLeastTwentyThreeAtMost() {
        LatestSets x = new LatestSets();
        for (int d = 0; d <= 9; d++) {
            Due.law(x, "-" + d + "h");
            due.is(d + " less from " + d, x.hour(d, 1), 0);
            due.is(d + " less from 1 more", x.hour(d + 1, 1), 1);
            due.is(d + " less from 0", x.hour(0, 1), 0);
            Due.law(x, "+" + d + "h");
            due.is(d + " more from " + (23 - d), x.hour(23 - d, 1), 23);
            due.is(d + " more from 1 less", x.hour(22 - d, 1), 22);
            due.is(d + " more from 23", x.hour(23, 1), 23);
        }
        String far = repeat("-9", 9) + "h";
        due.is("81 less", by(x, far, 23), 0);
        due.is("81 less, turned: 104 and more", by(x, "~" + far, 0), 23);
        due.is("81 more", by(x, repeat("+9", 9) + "h", 0), 23);
        due.is("81 more, turned", by(x, "~" + repeat("+9", 9) + "h", 0), 0);
    }

    // "(in between numbers may be beyond)"
    private static void inBetweenBeyond() {
        LatestSets x = new LatestSets();
        for (String law : new String[] {"+9+9+9+9-9-9-9-9h", "-9-9-9-9+9+9+9+9h", "~~h", "~-9~-9h"}) {
            Due.law(x, law);
            for (int h = 0; h <= 23; h++) {
                due.is(law + " from " + h, x.hour(h, 1), h);
            }
        }
        due.is("the greater one of -9 and -8", by(x, "+9>-9h-8h", 0), 1);
        due.is("the lesser one of -9 and -8", by(x, "+9<-9h-8h", 0), 0);
        due.is("the lesser one of 32 and 31", by(x, "-9<+9h+8h", 23), 22);
        due.is("the greater one of 32 and 31", by(x, "-9>+9h+8h", 23), 23);
        due.is("half of 32 and 30", by(x, "-9/+9h+7h", 23), 22);
    }

    // "THE FAULT: the place (from 0 on) of the first sign that can not stand there"
    private static void anyCodeAsTheFirstSign() {
        LatestSets x = new LatestSets();
        for (int code = 33; code <= 126; code++) {
            boolean ends = "lfmph".indexOf(code) >= 0;
            boolean begins = "<>/~-+".indexOf(code) >= 0;
            x.wipe();
            x.say(code);
            due.is("fault of the sign " + code, x.fault(), ends ? NONE : begins ? 1 : 0);
        }
        for (int code = 33; code <= 126; code++) {
            LatestSets y = new LatestSets();
            boolean ends = "lfmph".indexOf(code) >= 0;
            boolean begins = "<>/~-+".indexOf(code) >= 0;
            Due.write(y, "<-4l" + (char) code);
            due.is("fault of the second part " + code, y.fault(), ends ? NONE : begins ? 5 : 4);
            due.is("enact of it", y.enact(), ends ? 5 : NO);
        }
    }

    // "- and a digit 0 to 9"
    private static void anyCodeAsADigit() {
        for (char sign : new char[] {'-', '+'}) {
            for (int code = 33; code <= 126; code++) {
                LatestSets x = new LatestSets();
                boolean digit = code >= '0' && code <= '9';
                x.say(sign);
                x.say(code);
                due.is("fault of " + sign + " and " + code, x.fault(), digit ? 2 : 1);
                x.say('l');
                due.is("fault with a part behind", x.fault(), digit ? NONE : 1);
            }
        }
    }

    private static void anyCodeBehindAWholeLaw() {
        for (String law : new String[] {"l", "~f", "-0m", "</lf>mp", repeat("~", 18) + "h", repeat("~", 19) + "h"}) {
            for (int code = 33; code <= 126; code++) {
                LatestSets x = new LatestSets();
                Due.write(x, law);
                due.is("fault of " + law, x.fault(), NONE);
                x.say(code);
                due.is("fault of " + law + " and " + code, x.fault(), law.length());
                x.say('l');
                due.is("it is the first one", x.fault(), law.length());
            }
        }
    }

    // "the number of signs, if more must come"
    private static void moreMustCome() {
        String[] laws = {"l", "~~l", "-3+4f", "<l>f/mp", "/-1<l+9~h>mp", "<<<llll", repeat("-9", 9) + "l",
            repeat("~", 19) + "l", repeat("<", 9) + repeat("h", 10)};
        for (String law : laws) {
            LatestSets x = new LatestSets();
            due.is("fault of nothing", x.fault(), 0);
            for (int i = 0; i < law.length(); i++) {
                due.is("enact ahead of the end of " + law, x.enact(), NO);
                x.say(law.charAt(i));
                due.is("fault of " + law + " to " + i, x.fault(), i + 1 < law.length() ? i + 1 : NONE);
            }
            due.is("enact " + law, x.enact(), law.length());
        }
    }

    // "(20 SIGNS at most are a LAW: a 21st can not stand, however many must still come at the twentieth.)"
    private static void twentySignsAtMost() {
        String[] twenty = {repeat("~", 20), repeat("<", 20), repeat("-1", 10), repeat("~", 19) + "-",
            repeat("~", 18) + "-5", repeat("<", 19) + "l", repeat("~", 17) + "<ll"};
        boolean[] whole = {false, false, false, false, false, false, true};
        for (int i = 0; i < twenty.length; i++) {
            faultIs(twenty[i], whole[i] ? NONE : 20);
            for (char next : "l5~<-x".toCharArray()) {
                faultIs(twenty[i] + next, 20);
                faultIs(twenty[i] + next + "l", 20);
            }
            faultIs(twenty[i] + repeat("l", 28), 20);
        }
        // The 20th, and the 19th, can not stand.
        faultIs(repeat("~", 19) + "5", 19);
        faultIs(repeat("~", 19) + "5l", 19);
        faultIs(repeat("~", 18) + "-ll", 19);
        faultIs(repeat("~", 18) + "lll", 19);
        faultIs(repeat("~", 17) + "lll", 18);
        faultIs(repeat("~", 17) + "-x5l", 18);
        LatestSets x = new LatestSets();
        due.is("19 signs", Due.law(x, repeat("~", 18) + "l"), 19);
        due.is("20 signs", Due.law(x, repeat("~", 19) + "l"), 20);
        due.is("21 signs", Due.law(x, repeat("~", 20) + "l"), NO);
        due.is("the law of 20 stays", x.told(3), 20);
    }

    /** The fault of a text on a new pad, and whether it becomes the law. */
    private static void faultIs(String text, int fault) {
        LatestSets x = new LatestSets();
        due.is("fault of " + text, Due.faultOf(x, text), fault);
        due.is("enact " + text, x.enact(), fault == NONE ? text.length() : NO);
    }

    // "The PAD becomes the LAW (it is empty then): SIGNS."
    private static void thePadIsEmptyThen() {
        LatestSets x = new LatestSets();
        due.is("one sign", Due.law(x, "f"), 1);
        due.is("the pad", x.told(0), 0);
        due.is("its fault", x.fault(), 0);
        due.is("enact again", x.enact(), NO);
        due.is("the law stays", x.told(40), 'f');
        due.is("none goes", x.wipe(), 0);
        String longest = repeat("-9", 9) + "~h";
        due.is("20 signs", Due.law(x, longest), 20);
        due.is("the pad", x.told(0), 0);
        for (int i = 0; i < 20; i++) {
            due.is("sign " + i, x.told(40 + i), longest.charAt(i));
        }
        due.is("no sign 20", x.told(60), OUTSIDE);
        due.is("the first sign anew", x.say('<'), 1);
        due.is("the law is another text", x.told(40), '-');
    }

    // "At first the LAW is l."
    private static void theLawStaysUntilTheNext() {
        LatestSets x = guild(3, 0, 9, 0, 5, 0);
        due.is("l at first", x.hour(0, 1), 9);
        due.is("of one sign", x.told(3), 1);
        due.is("which is l", x.told(40), 'l');
        Due.write(x, "f");
        due.is("a text on the pad is no law", x.hour(0, 1), 9);
        due.is("enact", x.enact(), 1);
        due.is("now it is", x.hour(0, 1), 3);
        Due.write(x, "<");
        due.is("NO", x.enact(), NO);
        due.is("the law stays", x.hour(0, 1), 3);
        due.is("the pad stays", x.told(0), 1);
        x.members(2);
        due.is("members leave the law", x.told(40), 'f');
        due.is("and the pad", x.told(0), 1);
        due.is("and the fine", x.fine(7), 1);
        x.members(2);
        due.is("fine stays", x.told(2), 7);
    }
}
