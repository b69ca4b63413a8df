/** Promises 9 to 13: hour, comes, tends, paid, content. */
public final class WeeksTest {
    private static final int OUTSIDE = LatestSets.OUTSIDE, UNKNOWN = LatestSets.UNKNOWN;
    private static final Due due = new Due("WeeksTest");

    public static void main(String[] args) {
        hoursWeekByWeek();
        whenMembersCome();
        whereItTends();
        finesPaid();
        contentOfHours();
        due.end();
    }

    private static void hoursWeekByWeek() {
        LatestSets x = new LatestSets();
        x.member(2, 1, 1);
        due.is("week 0", x.hour(5, 0), 5);
        due.is("week 1", x.hour(5, 1), 6);
        due.is("week 18", x.hour(5, 18), 23);
        due.is("week 17", x.hour(5, 17), 22);
        due.is("week 99", x.hour(5, 99), 23);
        due.is("from 0", x.hour(0, 1), 1);
        due.is("from 23", x.hour(23, 1), 23);
        due.is("from 24", x.hour(24, 1), OUTSIDE);
        due.is("from -1", x.hour(-1, 1), OUTSIDE);
        due.is("week -1", x.hour(5, -1), OUTSIDE);
        due.is("week 100", x.hour(5, 100), OUTSIDE);
        Due.law(x, "~h");
        due.is("turned, week 99", x.hour(5, 99), 18);
        due.is("turned, week 98", x.hour(5, 98), 5);
    }

    private static void whenMembersCome() {
        LatestSets x = new LatestSets();
        x.member(0, 0, 15);
        x.member(1, 1, 5);
        due.is("early", x.comes(0, 10, 0), 15);
        due.is("late", x.comes(1, 10, 0), 15);
        due.is("as told", x.comes(2, 10, 0), 10);
        due.is("a week on", x.comes(2, 10, 1), 15);
        due.is("two weeks on", x.comes(1, 10, 2), 23);
        due.is("23 at most", x.comes(1, 21, 0), 23);
        x.member(0, 1, 2);
        due.is("early and late", x.comes(0, 10, 0), 17);
        due.is("the hour is the greater one", x.comes(0, 16, 0), 18);
        due.is("week 99", x.comes(3, 0, 99), 23);
        due.is("no member", x.comes(4, 10, 0), UNKNOWN);
        due.is("no member -1", x.comes(-1, 10, 0), UNKNOWN);
        due.is("unknown goes ahead", x.comes(4, 24, 100), UNKNOWN);
        due.is("from 24", x.comes(0, 24, 0), OUTSIDE);
        due.is("from -1", x.comes(0, -1, 0), OUTSIDE);
        due.is("week 100", x.comes(0, 0, 100), OUTSIDE);
        due.is("week -1", x.comes(0, 0, -1), OUTSIDE);
    }

    private static void tendsIs(LatestSets x, String what, int from, int ahead, int length, int least) {
        due.is(what + ": ahead", x.tends(from, 0), ahead);
        due.is(what + ": how long", x.tends(from, 1), length);
        due.is(what + ": the least hour", x.tends(from, 2), least);
    }

    private static void whereItTends() {
        LatestSets x = new LatestSets();
        tendsIs(x, "at rest", 9, 0, 1, 9);
        x.member(0, 1, 1);
        tendsIs(x, "all hours ahead", 0, 23, 1, 23);
        tendsIs(x, "one ahead", 22, 1, 1, 23);
        Due.law(x, "~h");
        tendsIs(x, "a ring of two", 20, 0, 2, 3);
        Due.law(x, "~+2h");
        // 20 1 20: the ring of 20; 0 21 0; 23 0 21 0.
        tendsIs(x, "23 is ahead of a ring", 23, 1, 2, 0);
        tendsIs(x, "20", 20, 0, 2, 1);
        Due.law(x, "<+9h~+9h");
        // 0 9 5 9: the lesser one of h + 9 and 14 - h.
        tendsIs(x, "0 is ahead of 9 and 5", 0, 1, 2, 5);
        due.is("what 3", x.tends(0, 3), OUTSIDE);
        due.is("what -1", x.tends(0, -1), OUTSIDE);
        due.is("from 24", x.tends(24, 0), OUTSIDE);
        due.is("from -1", x.tends(-1, 0), OUTSIDE);
    }

    private static void finesPaid() {
        LatestSets x = new LatestSets();
        x.member(1, 1, 4);
        due.is("none is late", x.paid(0, 99), 0);
        due.is("no week", x.paid(1, 0), 0);
        due.is("one week", x.paid(1, 1), 4);
        due.is("99 weeks", x.paid(1, 99), 396);
        x.fine(9);
        due.is("fine 9", x.paid(1, 99), 3564);
        x.fine(0);
        due.is("fine 0", x.paid(1, 99), 0);
        due.is("no member", x.paid(4, 1), UNKNOWN);
        due.is("no member -1", x.paid(-1, 1), UNKNOWN);
        due.is("unknown goes ahead", x.paid(4, 100), UNKNOWN);
        due.is("week 100", x.paid(1, 100), OUTSIDE);
        due.is("week -1", x.paid(1, -1), OUTSIDE);
    }

    private static void contentOfHours() {
        LatestSets x = new LatestSets();
        due.is("content(12)", x.content(12), 0);
        due.is("content(23)", x.content(23), 44);
        x.member(0, 2, 0);
        x.member(1, 2, 23);
        due.is("content(12), two elsewhere", x.content(12), 23);
        due.is("content(0)", x.content(0), 47);
        x.members(1);
        due.is("content of one", x.content(3), 9);
        due.is("content(24)", x.content(24), OUTSIDE);
        due.is("content(-1)", x.content(-1), OUTSIDE);
    }
}
