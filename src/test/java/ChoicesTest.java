/** Promises 14 to 17: choice, rests, laws, move. */
public final class ChoicesTest {
    private static final int NONE = LatestSets.NONE, OUTSIDE = LatestSets.OUTSIDE, UNKNOWN = LatestSets.UNKNOWN;
    private static final Due due = new Due("ChoicesTest");

    public static void main(String[] args) {
        howLateToCome();
        choiceRefuses();
        hoursAtRest();
        restsOfSix();
        restsRefuses();
        lawsThatComeToRest();
        eachLawCanBeTheOne();
        lawsRefuses();
        whoMovesTheHour();
        moveRefuses();
        due.end();
    }

    private static void choiceIs(LatestSets x, int member, int from, int cost, int... lates) {
        String call = "choice(" + member + ", " + from + ", " + lates.length + ")";
        due.is(call, x.choice(member, from, lates.length, -1), cost);
        for (int i = 0; i < lates.length; i++) {
            due.is(call + " week " + i, x.choice(member, from, lates.length, i), lates[i]);
        }
    }

    private static void howLateToCome() {
        LatestSets x = new LatestSets();
        choiceIs(x, 0, 12, 0, 0, 0, 0, 0);
        // Each hour late costs what it saves in one week: the first by numbers.
        choiceIs(x, 0, 9, 3, 0);
        choiceIs(x, 0, 9, 3, 3, 0);
        // 4 at once cost 4 and none more; to come 5 late from 6 costs 1 for 1.
        choiceIs(x, 3, 8, 4, 4, 0, 0, 0);
        choiceIs(x, 0, 20, 16, 0, 0);
        x.fine(0);
        choiceIs(x, 0, 9, 0, 3, 0, 0, 0);
        choiceIs(x, 0, 2, 5, 5, 5, 0);
        x.fine(2);
        // A week at 9 costs 3: 6 for 3 hours, saved 9 in three weeks.
        choiceIs(x, 0, 9, 6, 3, 0, 0);
        choiceIs(x, 0, 9, 3, 0);
        // In two weeks it is all the same: 6 either way, the first by numbers.
        choiceIs(x, 0, 9, 6, 0, 0);
        x.fine(1);
        x.member(1, 1, 3);
        choiceIs(x, 0, 9, 3, 0, 0);
        choiceIs(x, 1, 9, 3, 3, 0);
        choiceIs(x, 2, 23, 44, 0, 0, 0, 0);
        due.is("LATE is left as told", x.told(21), 3);
        x.members(1);
        Due.law(x, "-3l");
        choiceIs(x, 0, 12, 3, 0);
        x.fine(0);
        choiceIs(x, 0, 12, 0, 3, 3, 3, 3);
    }

    private static void choiceRefuses() {
        LatestSets x = new LatestSets();
        due.is("no member", x.choice(4, 0, 1, 0), UNKNOWN);
        due.is("no member -1", x.choice(-1, 0, 1, 0), UNKNOWN);
        due.is("unknown goes ahead", x.choice(4, 24, 0, 9), UNKNOWN);
        due.is("from 24", x.choice(0, 24, 1, 0), OUTSIDE);
        due.is("from -1", x.choice(0, -1, 1, 0), OUTSIDE);
        due.is("0 weeks", x.choice(0, 0, 0, -1), OUTSIDE);
        due.is("5 weeks", x.choice(0, 0, 5, 0), OUTSIDE);
        due.is("week -2", x.choice(0, 0, 1, -2), OUTSIDE);
        due.is("week w", x.choice(0, 0, 1, 1), OUTSIDE);
        due.is("week 4 of 4", x.choice(0, 0, 4, 4), OUTSIDE);
        due.is("week 3 of 4", x.choice(0, 12, 4, 3), 0);
    }

    private static void restsAre(LatestSets x, int from, int... all) {
        due.is("rests(" + from + ")", x.rests(from, -1), all.length);
        for (int i = 0; i < all.length; i++) {
            due.is("rests(" + from + ", " + i + ")", x.rests(from, i), all[i]);
        }
        due.is("no rest more", x.rests(from, all.length), NONE);
    }

    private static void hoursAtRest() {
        LatestSets x = new LatestSets();
        x.members(1);
        // Fine 1: each hour late costs what it saves.
        restsAre(x, 10, 0, 1, 2);
        restsAre(x, 5, 0, 1, 2, 3);
        restsAre(x, 13, 0);
        x.fine(0);
        restsAre(x, 10, 2);
        restsAre(x, 5, 3);
        x.members(2);
        // The later one sets it: 2 late by one, the other one by any up to 2.
        restsAre(x, 10, 2, 12, 20, 21, 22, 33);
        x.member(0, 2, 10);
        // The first one would have 10: he can not bring it about while the second comes at 12.
        restsAre(x, 10, 2, 12, 22, 33);
        x.fine(1);
        // Now each hour late costs the second what it saves him, and the first would have none of it.
        restsAre(x, 10, 0, 1, 2);
        x.fine(2);
        restsAre(x, 10, 0);
        LatestSets y = new LatestSets();
        y.members(2);
        y.fine(0);
        Due.law(y, "h");
        due.is("all rest by h", y.rests(4, -1), 16);
        due.is("the last one", y.rests(4, 15), 33);
        due.is("none behind", y.rests(4, 16), NONE);
    }

    private static void restsOfSix() {
        LatestSets x = new LatestSets();
        x.members(6);
        x.fine(0);
        Due.law(x, "h");
        due.is("all of six", x.rests(4, -1), 4096);
        due.is("the first", x.rests(4, 0), 0);
        due.is("the second", x.rests(4, 1), 1);
        due.is("the fifth", x.rests(4, 4), 10);
        due.is("the last", x.rests(4, 4095), 333333);
        due.is("none behind", x.rests(4, 4096), NONE);
        x.fine(9);
        restsAre(x, 4, 0);
    }

    private static void restsRefuses() {
        LatestSets x = new LatestSets();
        due.is("from 24", x.rests(24, 0), OUTSIDE);
        due.is("from -1", x.rests(-1, 0), OUTSIDE);
        due.is("the hour goes ahead", x.rests(24, -2), OUTSIDE);
        due.is("i -2", x.rests(12, -2), NONE);
        due.is("i least", x.rests(12, Integer.MIN_VALUE), NONE);
        due.is("i most", x.rests(12, Integer.MAX_VALUE), NONE);
    }

    private static void lawsAre(LatestSets x, int from, int number, int hour) {
        due.is("laws(" + from + ", 0)", x.laws(from, 0), number);
        due.is("laws(" + from + ", 1)", x.laws(from, 1), hour);
    }

    private static void lawsThatComeToRest() {
        LatestSets x = new LatestSets();
        lawsAre(x, 12, 0, 12);
        lawsAre(x, 20, 0, 20);
        x.member(0, 1, 2);
        // By l it goes to 23; by l less 2 it stays, or goes from 23 to 21.
        lawsAre(x, 12, 2, 12);
        lawsAre(x, 23, 2, 21);
        x.member(0, 2, 23);
        x.member(1, 2, 23);
        x.member(2, 2, 23);
        lawsAre(x, 12, 0, 23);
        x.members(1);
        x.member(0, 0, 6);
        x.member(0, 2, 5);
        // The earliest he comes is 6: by 1 less it goes from 5 to 5.
        lawsAre(x, 5, 1, 5);
        x.member(0, 2, 0);
        // By 5 less from 6 to 1; by l alike from 1 to 6 less 5.
        lawsAre(x, 0, 5, 1);
        x.members(4);
        for (int m = 0; m < 4; m++) {
            x.member(m, 1, 5);
        }
        lawsAre(x, 12, 5, 12);
        Due.law(x, "f");
        lawsAre(x, 12, 5, 12);
        due.is("the law is left", x.told(40), 'f');
        due.is("of one sign", x.told(3), 1);
        x.members(3);
        x.member(2, 0, 20);
        x.member(2, 1, 5);
        x.member(1, 1, 1);
        // The latest at 23 drags it; the middle one less 1 stays where it is.
        lawsAre(x, 12, 7, 12);
    }

    /** Members who come at 5 at the earliest by no law but one. */
    private static void eachLawCanBeTheOne() {
        LatestSets x = new LatestSets();
        int[][] early = {{20, 10, 0, 0}, {20, 20, 10, 10}};
        int[][] late = {{0, 0, 0, 0}, {5, 5, 5, 0}};
        int[] number = {17, 23};
        for (int i = 0; i < 2; i++) {
            for (int m = 0; m < 4; m++) {
                x.member(m, 0, early[i][m]);
                x.member(m, 1, late[i][m]);
                x.member(m, 2, 5);
            }
            lawsAre(x, 0, number[i], 5);
        }
    }

    private static void lawsRefuses() {
        LatestSets x = new LatestSets();
        due.is("from 24", x.laws(24, 0), OUTSIDE);
        due.is("from -1", x.laws(-1, 0), OUTSIDE);
        due.is("what 2", x.laws(0, 2), OUTSIDE);
        due.is("what -1", x.laws(0, -1), OUTSIDE);
    }

    private static void whoMovesTheHour() {
        LatestSets x = new LatestSets();
        due.is("as told", x.move(12, 1, 12), 0);
        due.is("one, by l", x.move(12, 1, 17), 1);
        due.is("too far", x.move(12, 1, 18), NONE);
        due.is("in two weeks", x.move(12, 2, 22), 1);
        due.is("too early", x.move(12, 9, 11), NONE);
        Due.law(x, "m");
        due.is("three of four, by m", x.move(12, 1, 13), 7);
        Due.law(x, "p");
        due.is("two of four, by p", x.move(12, 1, 13), 3);
        Due.law(x, "f");
        due.is("all, by f", x.move(12, 1, 13), 15);
        x.member(1, 1, 5);
        due.is("all but one who is late as told", x.move(12, 1, 13), 13);
        Due.law(x, "-3l");
        due.is("he who is late comes in time", x.move(12, 1, 11), 2);
        due.is("down in 4 weeks", x.move(12, 4, 0), 2);
        due.is("not in 3", x.move(12, 3, 2), NONE);
        due.is("up as told", x.move(12, 1, 14), 0);
        due.is("the told hour itself is held by who is late", x.move(12, 1, 12), 0);
        due.is("not more than 2 a week", x.move(12, 1, 15), NONE);
        due.is("in two weeks", x.move(12, 2, 16), 0);
        x.member(3, 1, 4);
        due.is("two of them come in time", x.move(12, 1, 11), 10);
        due.is("one suffices not", x.move(12, 9, 9), 10);
        x.member(1, 1, 0);
        x.member(3, 1, 0);
        due.is("the told hour or later: one must be late", x.move(12, 1, 12), 1);
        Due.law(x, "~h");
        due.is("none does by h", x.move(12, 2, 13), NONE);
        due.is("it turns by itself", x.move(12, 1, 11), 0);
        x.members(1);
        Due.law(x, "l");
        due.is("alone", x.move(0, 9, 23), 1);
        due.is("alone, too far", x.move(0, 4, 23), NONE);
        due.is("LATE is left as told", x.told(20), 0);
    }

    private static void moveRefuses() {
        LatestSets x = new LatestSets();
        due.is("from 24", x.move(24, 1, 0), OUTSIDE);
        due.is("from -1", x.move(-1, 1, 0), OUTSIDE);
        due.is("0 weeks", x.move(0, 0, 0), OUTSIDE);
        due.is("10 weeks", x.move(0, 10, 0), OUTSIDE);
        due.is("to 24", x.move(0, 1, 24), OUTSIDE);
        due.is("to -1", x.move(0, 1, -1), OUTSIDE);
        due.is("9 weeks", x.move(0, 9, 0), 0);
    }
}
