/** Promises 23 to 25: image, restore, told. */
public final class ImagesTest {
    private static final int OUTSIDE = LatestSets.OUTSIDE, STATE = LatestSets.STATE;
    private static final Due due = new Due("ImagesTest");

    public static void main(String[] args) {
        imagesRefuse();
        allButThePadIsKept();
        twoImagesStandApart();
        toldOfAll();
        toldRefuses();
        due.end();
    }

    private static void imagesRefuse() {
        LatestSets x = new LatestSets();
        due.is("image(2)", x.image(2), OUTSIDE);
        due.is("image(-1)", x.image(-1), OUTSIDE);
        due.is("restore(2)", x.restore(2), OUTSIDE);
        due.is("restore(-1)", x.restore(-1), OUTSIDE);
        due.is("restore(0), none kept", x.restore(0), STATE);
        due.is("image(0)", x.image(0), 1);
        due.is("restore(0)", x.restore(0), 1);
        due.is("restore(1), none kept", x.restore(1), STATE);
    }

    private static void allButThePadIsKept() {
        LatestSets x = new LatestSets();
        x.members(5);
        x.member(4, 0, 7);
        x.member(3, 1, 2);
        x.member(2, 2, 21);
        x.fine(6);
        Due.law(x, "<l-4h");
        x.seen(3, 9);
        x.seen(1, 7);
        Due.write(x, "~~");
        due.is("image(1)", x.image(1), 1);
        x.members(2);
        x.fine(0);
        Due.law(x, "f");
        x.seen(5, 5);
        Due.write(x, "abc");
        due.is("restore(1)", x.restore(1), 1);
        due.is("the pad is left", x.told(0), 3);
        due.is("members", x.told(1), 5);
        due.is("fine", x.told(2), 6);
        due.is("law", x.told(3), 5);
        due.is("sights", x.told(4), 2);
        due.is("early", x.told(14), 7);
        due.is("late", x.told(23), 2);
        due.is("best", x.told(32), 21);
        String law = "<l-4h";
        for (int i = 0; i < 5; i++) {
            due.is("law " + i, x.told(40 + i), law.charAt(i));
        }
        due.is("wipe leaves it", x.wipe(), 3);
        x.forget();
        x.seen(1, 14);
        due.is("sights as they are now", x.could(0, 10) == 63 ? 1 : 0, 0);
        due.is("restore(1) once more", x.restore(1), 1);
        due.is("sights as they were", x.told(4), 2);
    }

    private static void twoImagesStandApart() {
        LatestSets x = new LatestSets();
        x.fine(2);
        x.image(0);
        x.fine(3);
        x.image(1);
        x.fine(4);
        due.is("restore(0)", x.restore(0), 1);
        due.is("fine of 0", x.told(2), 2);
        due.is("restore(1)", x.restore(1), 1);
        due.is("fine of 1", x.told(2), 3);
        x.member(0, 0, 9);
        due.is("restore(1) again", x.restore(1), 1);
        due.is("what came later is not in it", x.told(10), 0);
        x.fine(5);
        due.is("image(1) anew", x.image(1), 1);
        x.fine(6);
        x.restore(1);
        due.is("fine of the new one", x.told(2), 5);
        x.restore(0);
        due.is("0 is as it was", x.told(2), 2);
        x.seen(2, 11);
        x.image(0);
        x.forget();
        x.seen(2, 13);
        x.restore(0);
        // A sight of 11 in week 2, not one of 13: none is late then.
        due.is("which sights", x.could(0, 11), 1);
        due.is("which not", x.could(0, 13), 0);
    }

    private static void toldOfAll() {
        LatestSets x = new LatestSets();
        x.members(6);
        for (int m = 0; m < 6; m++) {
            x.member(m, 0, 10 + m);
            x.member(m, 1, 5 - m);
            x.member(m, 2, 2 * m);
        }
        for (int m = 0; m < 6; m++) {
            due.is("early", x.told(10 + m), 10 + m);
            due.is("late", x.told(20 + m), 5 - m);
            due.is("best", x.told(30 + m), 2 * m);
        }
        x.say('x');
        due.is("signs", x.told(0), 1);
    }

    private static void toldRefuses() {
        LatestSets x = new LatestSets();
        x.members(6);
        int[] outside = {-1, 5, 6, 7, 8, 9, 16, 19, 26, 29, 36, 37, 38, 39, 41, 60, 100,
            Integer.MIN_VALUE, Integer.MAX_VALUE, Integer.MIN_VALUE + 40};
        for (int what : outside) {
            due.is("told(" + what + ")", x.told(what), OUTSIDE);
        }
        x.members(2);
        due.is("told(12) of two", x.told(12), OUTSIDE);
        due.is("told(22) of two", x.told(22), OUTSIDE);
        due.is("told(32) of two", x.told(32), OUTSIDE);
        due.is("told(31) of two", x.told(31), 12);
    }
}
