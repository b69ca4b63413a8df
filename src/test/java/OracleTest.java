/** Runs of drawn calls on an object and on the oracle: they answer alike. */
public final class OracleTest {
    private static final Due due = new Due("OracleTest");
    private static final int[] FAR = {-1, 0, 1, -2, 24, 100, Integer.MIN_VALUE, Integer.MAX_VALUE, -1000000000, 65536};

    private long state;
    private LatestSets x;
    private Oracle o;
    private int calls;

    private OracleTest(long seed) {
        state = seed;
        x = new LatestSets();
        o = new Oracle();
    }

    public static void main(String[] args) {
        int runs = 300;
        long first = 1;
        if (args.length > 1) {
            runs = Integer.parseInt(args[0]);
            first = Long.parseLong(args[1]);
        }
        for (long seed = first; seed < first + runs; seed++) {
            new OracleTest(seed * 7919).run((int) (seed % 10));
        }
        due.end();
    }

    private int draw(int bound) {
        state = state * 6364136223846793005L + 1442695040888963407L;
        return (int) ((state >>> 33) % bound);
    }

    /** A number from least to most; now and then one that is not. */
    private int number(int least, int most) {
        if (draw(60) == 0) {
            return FAR[draw(FAR.length)];
        }
        if (draw(40) == 0) {
            return draw(2) == 0 ? least - 1 : most + 1;
        }
        return least + draw(most - least + 1);
    }

    private void same(String call, long got, long want) {
        calls++;
        due.is(call, got, want);
    }

    private void run(int kind) {
        if (kind < 8) {
            int n = kind == 0 ? 6 : 1 + draw(5);
            same("members", x.members(n), o.members(n));
        }
        // An object is used for at most 512 calls; a law takes at most 40 of them.
        while (calls < 470) {
            int which = draw(100);
            if (which < 30) {
                change(draw(100));
            } else if (which < 60) {
                weeks(draw(5));
            } else if (which < 70) {
                choices(draw(20));
            } else {
                chances(draw(7));
            }
        }
    }

    private void change(int which) {
        if (which < 40) {
            int m = number(0, o.told(1) - 1), what = number(0, 2), v = number(0, what == 1 ? 5 : 23);
            same("member(" + m + "," + what + "," + v + ")", x.member(m, what, v), o.member(m, what, v));
        } else if (which < 45) {
            int v = number(0, 9);
            same("fine", x.fine(v), o.fine(v));
        } else if (which < 70) {
            law();
        } else if (which < 80) {
            int sign = number(33, 126);
            same("say", x.say(sign), o.say(sign));
            same("fault", x.fault(), o.fault());
        } else if (which < 83) {
            same("wipe", x.wipe(), o.wipe());
        } else if (which < 90) {
            int n = number(0, 1);
            same("image(" + n + ")", x.image(n), o.image(n));
        } else if (which < 97) {
            int n = number(0, 1);
            same("restore(" + n + ")", x.restore(n), o.restore(n));
        } else if (which < 98) {
            int n = number(1, 4);
            same("members(" + n + ")", x.members(n), o.members(n));
        } else {
            same("enact", x.enact(), o.enact());
        }
    }

    private void law() {
        if (draw(3) > 0) {
            same("wipe", x.wipe(), o.wipe());
        }
        String text = part(draw(5));
        if (draw(8) == 0) {
            text = text.replace((char) ('0' + draw(10)), 'l');
        }
        if (draw(10) == 0) {
            text += part(1);
        }
        for (char sign : text.toCharArray()) {
            same("say", x.say(sign), o.say(sign));
        }
        same("fault of " + text, x.fault(), o.fault());
        same("enact " + text, x.enact(), o.enact());
    }

    private String part(int depth) {
        if (depth == 0) {
            return "" + "llfmph".charAt(draw(6));
        }
        char sign = "<>/~-+-+".charAt(draw(8));
        if (sign == '~') {
            return sign + part(depth - 1);
        }
        if (sign == '-' || sign == '+') {
            return "" + sign + draw(10) + part(depth - 1);
        }
        return sign + part(depth - 1) + part(draw(depth));
    }

    private void weeks(int which) {
        int m = number(0, o.told(1) - 1), from = number(0, 23), w = number(0, 99), what = number(0, 2);
        switch (which) {
            case 0: same("hour(" + from + "," + w + ")", x.hour(from, w), o.hour(from, w)); break;
            case 1: same("comes", x.comes(m, from, w), o.comes(m, from, w)); break;
            case 2: same("tends(" + from + "," + what + ")", x.tends(from, what), o.tends(from, what)); break;
            case 3: same("paid", x.paid(m, w), o.paid(m, w)); break;
            default: same("content", x.content(from), o.content(from)); break;
        }
    }

    private void choices(int which) {
        int m = number(0, o.told(1) - 1), from = number(0, 23), h = number(0, 23);
        boolean many = o.told(1) > 4 && draw(8) > 0;
        if (which < 8) {
            int w = number(1, 4), i = number(-1, w < 1 || w > 4 ? 3 : w - 1);
            same("choice(" + m + "," + from + "," + w + "," + i + ")", x.choice(m, from, w, i),
                o.choice(m, from, w, i));
        } else if (which < 12) {
            int what = number(0, 1);
            same("laws(" + from + "," + what + ")", x.laws(from, what), o.laws(from, what));
        } else if (which < 16 && !many) {
            int i = draw(3) == 0 ? -1 : number(-1, draw(3) == 0 ? 200 : 9);
            same("rests(" + from + "," + i + ")", x.rests(from, i), o.rests(from, i));
        } else if (!many) {
            int w = number(1, 9);
            same("move(" + from + "," + w + "," + h + ")", x.move(from, w, h), o.move(from, w, h));
        }
    }

    private void chances(int which) {
        int m = number(0, o.told(1) - 1), from = number(0, 23), what = number(0, 2);
        if (which == 0) {
            int w = number(0, 4);
            int h = draw(2) == 0 ? o.hour(from, w) : number(0, 23);
            same("seen(" + w + "," + h + ")", x.seen(w, h), o.seen(w, h));
            same("could(" + m + "," + from + ")", x.could(m, from), o.could(m, from));
        } else if (which == 1 && draw(3) == 0) {
            same("forget", x.forget(), o.forget());
        } else if (which == 2) {
            same("could(" + m + "," + from + ")", x.could(m, from), o.could(m, from));
        } else if (which == 3) {
            int w = number(0, 8), t = number(0, 10), r = number(0, 9), part = number(0, 1);
            same("rain(" + from + "," + w + "," + t + "," + r + "," + part + ")", x.rain(from, w, t, r, part),
                o.rain(from, w, t, r, part));
        } else if (which == 4) {
            int seed = number(0, 9999), w = number(1, 99);
            same("year(" + seed + "," + w + "," + from + "," + what + ")", x.year(seed, w, from, what),
                o.year(seed, w, from, what));
        } else if (which > 4) {
            int told = number(0, 62);
            same("told(" + told + ")", x.told(told), o.told(told));
        }
    }
}
