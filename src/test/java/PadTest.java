/** Promises 5 to 8: say, wipe, fault, enact; and what each sign of a law makes. */
public final class PadTest {
    private static final int NONE = LatestSets.NONE, OUTSIDE = LatestSets.OUTSIDE;
    private static final Due due = new Due("PadTest");

    public static void main(String[] args) {
        signsAreSaid();
        faultsAreFound();
        faultsOfLongTexts();
        lawsAreEnacted();
        signsMakeHours();
        hoursAreHeldWithin();
        middleAndLatestButOne();
        due.end();
    }

    private static void signsAreSaid() {
        LatestSets x = new LatestSets();
        due.is("say(32)", x.say(32), OUTSIDE);
        due.is("say(127)", x.say(127), OUTSIDE);
        due.is("say(-1)", x.say(-1), OUTSIDE);
        due.is("say(33)", x.say(33), 1);
        due.is("say(126)", x.say(126), 2);
        for (int n = 3; n <= 48; n++) {
            due.is("say the sign " + n, x.say('l'), n);
        }
        due.is("say to a full pad", x.say('l'), LatestSets.FULL);
        due.is("outside goes ahead of full", x.say(32), OUTSIDE);
        due.is("signs", x.told(0), 48);
        due.is("wipe", x.wipe(), 48);
        due.is("wipe again", x.wipe(), 0);
        due.is("say after wipe", x.say('l'), 1);
    }

    private static void faultsAreFound() {
        LatestSets x = new LatestSets();
        String[] whole = {"l", "f", "m", "p", "h", "<lf", ">lf", "/lf", "~l", "-0l", "-9l", "+0h", "+9h",
            "/<lf>mp", "-1-2-3l", "~~~f", "<-5~h+2m"};
        for (String text : whole) {
            due.is("fault of " + text, Due.faultOf(x, text), NONE);
        }
        due.is("fault of nothing", Due.faultOf(x, ""), 0);
        String[] open = {"<", "<l", "<<", "<<l", "-", "-5", "+", "+0", "~", "/-3", ">l~"};
        for (String text : open) {
            due.is("fault of " + text, Due.faultOf(x, text), text.length());
        }
        due.is("a sign too many", Due.faultOf(x, "ll"), 1);
        due.is("a digit alone", Due.faultOf(x, "5"), 0);
        due.is("a digit for a part", Due.faultOf(x, "<5l"), 1);
        due.is("no digit", Due.faultOf(x, "-l"), 1);
        due.is("two digits", Due.faultOf(x, "-12l"), 2);
        due.is("the sign ahead of 0", Due.faultOf(x, "+/l"), 1);
        due.is("the sign behind 9", Due.faultOf(x, "+:l"), 1);
        due.is("no such sign", Due.faultOf(x, "<lx"), 2);
        due.is("great letters do not count", Due.faultOf(x, "L"), 0);
        due.is("the first one is told", Due.faultOf(x, "<x?"), 1);
        due.is("fault leaves the pad", x.told(0), 3);
    }

    private static void faultsOfLongTexts() {
        LatestSets x = new LatestSets();
        String nineteen = "~~~~~~~~~~~~~~~~~~~";
        due.is("20 signs are a law", Due.faultOf(x, nineteen + "l"), NONE);
        due.is("20 signs, more must come", Due.faultOf(x, nineteen + "~"), 20);
        due.is("the 21st cannot stand", Due.faultOf(x, nineteen + "~l"), 20);
        due.is("the 21st of a whole one cannot, either", Due.faultOf(x, nineteen + "ll"), 20);
        due.is("20 signs, 21 must come", Due.faultOf(x, nineteen + "<"), 20);
        due.is("an earlier fault goes first", Due.faultOf(x, "~~x~~~~~~~~~~~~~~~~~~~~~"), 2);
        due.is("a digit as the 21st", Due.faultOf(x, nineteen + "-5l"), 20);
        due.is("48 signs", Due.faultOf(x, nineteen + nineteen + "~~~~~~~~~~"), 20);
        due.is("they are no law", x.enact(), LatestSets.NO);
        due.is("the pad stays", x.told(0), 48);
    }

    private static void lawsAreEnacted() {
        LatestSets x = new LatestSets();
        due.is("an empty pad", x.enact(), LatestSets.NO);
        due.is("a fault", Due.law(x, "<l"), LatestSets.NO);
        due.is("the law stays", x.told(40), 'l');
        due.is("it has one sign", x.told(3), 1);
        due.is("enact", Due.law(x, "-3m"), 3);
        due.is("the pad is empty", x.told(0), 0);
        due.is("the law", x.told(3), 3);
        due.is("its first", x.told(40), '-');
        due.is("its second", x.told(41), '3');
        due.is("its third", x.told(42), 'm');
        due.is("none more", x.told(43), OUTSIDE);
        due.is("a longest one", Due.law(x, "/</lf/mp>h-3+4~<lfhf".substring(0, 19)), LatestSets.NO);
        due.is("20 signs", Due.law(x, "~~~~~~~~~~~~~~~~~~~l"), 20);
        due.is("the 20th", x.told(59), 'l');
        due.is("no 21st", x.told(60), OUTSIDE);
        due.is("19 times turned", x.hour(5, 1), 18);
        due.is("a shorter one", Due.law(x, "f"), 1);
        due.is("nothing of the longer one is left", x.told(41), OUTSIDE);
    }

    /** Members come at 7, 9, 10, 14 of the hour 7. */
    private static LatestSets four() {
        LatestSets x = new LatestSets();
        x.member(0, 0, 14);
        x.member(1, 1, 2);
        x.member(3, 1, 3);
        return x;
    }

    private static void signsMakeHours() {
        LatestSets x = four();
        String[] texts = {"l", "f", "m", "p", "h", "<lf", ">lf", "<fl", ">fl", "/lf", "/fm", "~l", "-5l", "+5l",
            "-0m", "+0m", "-3+9-1p", "/~l-9f", "<~m>-1p/lh", ">h~m", "~-9~h", "/l/f/mp"};
        int[] hours = {14, 7, 9, 10, 7, 7, 14, 7, 14, 10, 8, 9, 9, 19,
            9, 9, 15, 3, 10, 14, 16, 11};
        for (int i = 0; i < texts.length; i++) {
            due.is("enact " + texts[i], Due.law(x, texts[i]), texts[i].length());
            due.is("hour by " + texts[i], x.hour(7, 1), hours[i]);
        }
    }

    private static void hoursAreHeldWithin() {
        LatestSets x = new LatestSets();
        Due.law(x, "-9h");
        due.is("0 at least", x.hour(3, 1), 0);
        Due.law(x, "+9h");
        due.is("23 at most", x.hour(20, 1), 23);
        Due.law(x, "+9-9h");
        due.is("in between beyond, below", x.hour(2, 1), 2);
        Due.law(x, "-9+9h");
        due.is("in between beyond, above", x.hour(20, 1), 20);
        Due.law(x, "+5/-9hf");
        due.is("a half of -7 is cut to -3", x.hour(1, 1), 2);
        Due.law(x, "/+3fh");
        due.is("a half of 5 is cut to 2", x.hour(1, 1), 2);
        Due.law(x, "/h+1h");
        due.is("a half of 2 times 4 and 1", x.hour(4, 1), 4);
    }

    private static void middleAndLatestButOne() {
        int[] middle = {5, 5, 6, 6, 7, 7};
        int[] butOne = {5, 5, 6, 7, 8, 9};
        for (int n = 1; n <= 6; n++) {
            LatestSets x = new LatestSets();
            x.members(n);
            for (int m = 0; m < n; m++) {
                // They come at 5, 6, 7 .. whoever is the first in number.
                x.member(m, 0, 5 + n - 1 - m);
            }
            Due.law(x, "m");
            due.is("middle of " + n, x.hour(5, 1), middle[n - 1]);
            Due.law(x, "p");
            due.is("latest but one of " + n, x.hour(5, 1), butOne[n - 1]);
            Due.law(x, "l");
            due.is("latest of " + n, x.hour(5, 1), 4 + n);
            Due.law(x, "f");
            due.is("first of " + n, x.hour(5, 1), 5);
        }
        LatestSets y = new LatestSets();
        y.member(1, 1, 4);
        y.member(3, 1, 4);
        Due.law(y, "p");
        due.is("two come last together", y.hour(5, 1), 9);
    }
}
