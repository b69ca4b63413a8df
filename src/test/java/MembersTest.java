/** Promises 1 to 4: a new object, members, member, fine. */
public final class MembersTest {
    private static final int OUTSIDE = LatestSets.OUTSIDE, UNKNOWN = LatestSets.UNKNOWN;
    private static final Due due = new Due("MembersTest");

    public static void main(String[] args) {
        aNewObject();
        membersAnswersWhichItWas();
        membersSetsBackWhatIsOfMembers();
        memberSetsOneRow();
        memberRefuses();
        fineIsSet();
        due.end();
    }

    private static void aNewObject() {
        LatestSets x = new LatestSets();
        due.is("new: signs", x.told(0), 0);
        due.is("new: members", x.told(1), 4);
        due.is("new: fine", x.told(2), 1);
        due.is("new: signs of the law", x.told(3), 1);
        due.is("new: sights", x.told(4), 0);
        due.is("new: law", x.told(40), 'l');
        for (int m = 0; m < 4; m++) {
            due.is("new: early " + m, x.told(10 + m), 0);
            due.is("new: late " + m, x.told(20 + m), 0);
            due.is("new: best " + m, x.told(30 + m), 12);
        }
        due.is("new: hour", x.hour(9, 5), 9);
        due.is("new: no image", x.restore(0), LatestSets.STATE);
        due.is("new: no image 1", x.restore(1), LatestSets.STATE);
    }

    private static void membersAnswersWhichItWas() {
        LatestSets x = new LatestSets();
        due.is("members(1)", x.members(1), 4);
        due.is("members(6)", x.members(6), 1);
        due.is("members(0)", x.members(0), OUTSIDE);
        due.is("members(7)", x.members(7), OUTSIDE);
        due.is("members(-1)", x.members(-1), OUTSIDE);
        due.is("members(min)", x.members(Integer.MIN_VALUE), OUTSIDE);
        due.is("members(max)", x.members(Integer.MAX_VALUE), OUTSIDE);
        due.is("members stay", x.told(1), 6);
        due.is("members(6) again", x.members(6), 6);
    }

    private static void membersSetsBackWhatIsOfMembers() {
        LatestSets x = new LatestSets();
        x.member(0, 0, 5);
        x.member(1, 1, 3);
        x.member(2, 2, 20);
        x.fine(7);
        x.seen(1, 8);
        Due.law(x, "-2f");
        Due.write(x, "lh");
        due.is("members(0) changes nothing", x.members(0), OUTSIDE);
        due.is("early is kept", x.told(10), 5);
        due.is("sights are kept", x.told(4), 1);
        due.is("members(4)", x.members(4), 4);
        due.is("early as at first", x.told(10), 0);
        due.is("late as at first", x.told(21), 0);
        due.is("best as at first", x.told(32), 12);
        due.is("sights as at first", x.told(4), 0);
        due.is("fine stays", x.told(2), 7);
        due.is("law stays", x.told(3), 3);
        due.is("pad stays", x.told(0), 2);
        x.members(6);
        x.member(5, 0, 9);
        x.members(2);
        x.members(6);
        due.is("early of one who went is as at first", x.told(15), 0);
    }

    private static void memberSetsOneRow() {
        LatestSets x = new LatestSets();
        due.is("early 23", x.member(0, 0, 23), 0);
        due.is("early 0", x.member(0, 0, 0), 23);
        due.is("late 5", x.member(3, 1, 5), 0);
        due.is("late 0", x.member(3, 1, 0), 5);
        due.is("best 23", x.member(1, 2, 23), 12);
        due.is("best 0", x.member(1, 2, 0), 23);
        due.is("best told", x.told(31), 0);
        due.is("best of another", x.told(30), 12);
    }

    private static void memberRefuses() {
        LatestSets x = new LatestSets();
        due.is("no member 4", x.member(4, 0, 0), UNKNOWN);
        due.is("no member -1", x.member(-1, 0, 0), UNKNOWN);
        due.is("unknown goes ahead of outside", x.member(4, 9, 99), UNKNOWN);
        due.is("what 3", x.member(0, 3, 0), OUTSIDE);
        due.is("what -1", x.member(0, -1, 0), OUTSIDE);
        due.is("early 24", x.member(0, 0, 24), OUTSIDE);
        due.is("early -1", x.member(0, 0, -1), OUTSIDE);
        due.is("late 6", x.member(0, 1, 6), OUTSIDE);
        due.is("late -1", x.member(0, 1, -1), OUTSIDE);
        due.is("best 24", x.member(0, 2, 24), OUTSIDE);
        due.is("best -1", x.member(0, 2, -1), OUTSIDE);
        due.is("nothing changed", x.told(10) + x.told(20) + x.told(30), 12);
        x.members(6);
        due.is("member 5 of 6", x.member(5, 2, 1), 12);
        due.is("no member 6", x.member(6, 2, 1), UNKNOWN);
        x.members(1);
        due.is("no member 1 of 1", x.member(1, 2, 1), UNKNOWN);
    }

    private static void fineIsSet() {
        LatestSets x = new LatestSets();
        due.is("fine(9)", x.fine(9), 1);
        due.is("fine(0)", x.fine(0), 9);
        due.is("fine(10)", x.fine(10), OUTSIDE);
        due.is("fine(-1)", x.fine(-1), OUTSIDE);
        due.is("fine stays", x.told(2), 0);
    }
}
