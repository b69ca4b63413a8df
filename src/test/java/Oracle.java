import java.math.BigInteger;
import java.util.ArrayList;
import java.util.Arrays;
import java.util.Collections;
import java.util.HashMap;
import java.util.List;
import java.util.Map;

/** A plain second reading of the document: each call does what its words say, by trying all. */
final class Oracle {
    private static final int NONE = -6, UNKNOWN = -1, OUTSIDE = -2, STATE = -3, FULL = -4, NO = -5;
    private static final long LOST = -1000000000000000000L;

    /** What an image keeps; lists are copied, never changed in place. */
    private static final class State {
        List<int[]> people = new ArrayList<>(); // early, late, best
        int fine = 1;
        String law = "l";
        List<int[]> sights = new ArrayList<>();

        State copy() {
            State s = new State();
            for (int[] p : people) {
                s.people.add(p.clone());
            }
            s.fine = fine;
            s.law = law;
            s.sights.addAll(sights);
            return s;
        }
    }

    private State now = new State();
    private String pad = "";
    private final Map<Integer, State> images = new HashMap<>();

    Oracle() {
        gather(4);
    }

    private void gather(int n) {
        now.people.clear();
        for (int i = 0; i < n; i++) {
            now.people.add(new int[] {0, 0, 12});
        }
        now.sights.clear();
    }

    private boolean known(int member) {
        return member >= 0 && member < now.people.size();
    }

    private static boolean bad(int v, int from, int to) {
        return v < from || v > to;
    }

    // The law, read from its front.

    private int place;

    private int value(String law, List<Integer> came, int hour) {
        char c = law.charAt(place++);
        int n = came.size();
        if (c == 'l') {
            return Collections.max(came);
        }
        if (c == 'f') {
            return Collections.min(came);
        }
        if (c == 'm') {
            return came.get(n % 2 == 1 ? n / 2 : n / 2 - 1);
        }
        if (c == 'p') {
            return n == 1 ? came.get(0) : came.get(n - 2);
        }
        if (c == 'h') {
            return hour;
        }
        if (c == '~') {
            return 23 - value(law, came, hour);
        }
        if (c == '-' || c == '+') {
            int digit = law.charAt(place++) - '0';
            return c == '-' ? value(law, came, hour) - digit : value(law, came, hour) + digit;
        }
        int one = value(law, came, hour);
        int two = value(law, came, hour);
        if (c == '<') {
            return one < two ? one : two;
        }
        if (c == '>') {
            return one > two ? one : two;
        }
        int sum = one + two;
        return sum < 0 ? -(-sum >> 1) : sum >> 1;
    }

    private int coming(int member, int hour, int late, int rain) {
        int early = Math.min(23, now.people.get(member)[0] + rain);
        int comes = (hour > early ? hour : early) + late;
        return comes > 23 ? 23 : comes;
    }

    private int step(String law, int hour, int[] lates, int rain) {
        List<Integer> came = new ArrayList<>();
        for (int m = 0; m < now.people.size(); m++) {
            came.add(coming(m, hour, lates[m], rain));
        }
        Collections.sort(came);
        place = 0;
        int v = value(law, came, hour);
        return v < 0 ? 0 : v > 23 ? 23 : v;
    }

    private int[] toldLates() {
        int[] lates = new int[now.people.size()];
        for (int m = 0; m < lates.length; m++) {
            lates[m] = now.people.get(m)[1];
        }
        return lates;
    }

    private int walk(String law, int from, int weeks, int[] lates) {
        int hour = from;
        for (int i = 0; i < weeks; i++) {
            hour = step(law, hour, lates, 0);
        }
        return hour;
    }

    // 1

    int members(int n) {
        if (bad(n, 1, 6)) {
            return OUTSIDE;
        }
        int was = now.people.size();
        gather(n);
        return was;
    }

    int member(int member, int what, int v) {
        if (!known(member)) {
            return UNKNOWN;
        }
        if (bad(what, 0, 2) || bad(v, 0, what == 1 ? 5 : 23)) {
            return OUTSIDE;
        }
        int was = now.people.get(member)[what];
        now.people.get(member)[what] = v;
        return was;
    }

    int fine(int v) {
        if (bad(v, 0, 9)) {
            return OUTSIDE;
        }
        int was = now.fine;
        now.fine = v;
        return was;
    }

    int say(int sign) {
        if (bad(sign, 33, 126)) {
            return OUTSIDE;
        }
        if (pad.length() == 48) {
            return FULL;
        }
        pad += (char) sign;
        return pad.length();
    }

    int wipe() {
        int was = pad.length();
        pad = "";
        return was;
    }

    /** The place behind one T that begins at a place; ~ of the place of a fault. */
    private static int behind(String text, int at) {
        if (at >= text.length() || at >= 20) {
            return ~Math.min(at, 20);
        }
        char c = text.charAt(at);
        if ("lfmph".indexOf(c) >= 0) {
            return at + 1;
        }
        if (c == '~') {
            return behind(text, at + 1);
        }
        if (c == '-' || c == '+') {
            if (at + 1 >= text.length() || at + 1 >= 20 || "0123456789".indexOf(text.charAt(at + 1)) < 0) {
                return ~(at + 1);
            }
            return behind(text, at + 2);
        }
        if ("<>/".indexOf(c) < 0) {
            return ~at;
        }
        int middle = behind(text, at + 1);
        return middle < 0 ? middle : behind(text, middle);
    }

    int fault() {
        int end = behind(pad, 0);
        if (end < 0) {
            return ~end;
        }
        return end == pad.length() ? NONE : end;
    }

    int enact() {
        if (fault() != NONE) {
            return NO;
        }
        now.law = pad;
        pad = "";
        return now.law.length();
    }

    // 2

    int hour(int from, int w) {
        return bad(from, 0, 23) || bad(w, 0, 99) ? OUTSIDE : walk(now.law, from, w, toldLates());
    }

    int comes(int member, int from, int w) {
        if (!known(member)) {
            return UNKNOWN;
        }
        if (bad(from, 0, 23) || bad(w, 0, 99)) {
            return OUTSIDE;
        }
        return coming(member, hour(from, w), now.people.get(member)[1], 0);
    }

    private int[] tendsBy(String law, int from) {
        List<Integer> hours = new ArrayList<>();
        int hour = from;
        while (!hours.contains(hour)) {
            hours.add(hour);
            hour = step(law, hour, toldLates(), 0);
        }
        int ahead = hours.indexOf(hour);
        List<Integer> ring = hours.subList(ahead, hours.size());
        return new int[] {ahead, ring.size(), Collections.min(ring)};
    }

    int tends(int from, int what) {
        return bad(from, 0, 23) || bad(what, 0, 2) ? OUTSIDE : tendsBy(now.law, from)[what];
    }

    int paid(int member, int w) {
        if (!known(member)) {
            return UNKNOWN;
        }
        if (bad(w, 0, 99)) {
            return OUTSIDE;
        }
        int sum = 0;
        for (int i = 0; i < w; i++) {
            sum += now.fine * now.people.get(member)[1];
        }
        return sum;
    }

    int content(int hour) {
        if (bad(hour, 0, 23)) {
            return OUTSIDE;
        }
        int sum = 0;
        for (int[] p : now.people) {
            sum += hour > p[2] ? hour - p[2] : p[2] - hour;
        }
        return sum;
    }

    // 3

    int choice(int member, int from, int w, int i) {
        if (!known(member)) {
            return UNKNOWN;
        }
        if (bad(from, 0, 23) || bad(w, 1, 4) || bad(i, -1, w - 1)) {
            return OUTSIDE;
        }
        int least = Integer.MAX_VALUE;
        String first = "";
        for (int plan = 0; plan < Math.pow(6, w); plan++) {
            String digits = Integer.toString(plan, 6);
            while (digits.length() < w) {
                digits = "0" + digits;
            }
            int hour = from;
            int all = 0;
            for (int k = 0; k < w; k++) {
                int[] lates = toldLates();
                lates[member] = digits.charAt(k) - '0';
                hour = step(now.law, hour, lates, 0);
                all += Math.abs(hour - now.people.get(member)[2]) + now.fine * lates[member];
            }
            if (all < least) {
                least = all;
                first = digits;
            }
        }
        return i == -1 ? least : first.charAt(i) - '0';
    }

    private int costs(int member, int from, int[] lates) {
        return Math.abs(step(now.law, from, lates, 0) - now.people.get(member)[2]) + now.fine * lates[member];
    }

    private boolean atRest(int from, int[] lates) {
        for (int m = 0; m < lates.length; m++) {
            for (int other = 0; other <= 3; other++) {
                int[] changed = lates.clone();
                changed[m] = other;
                if (costs(m, from, changed) < costs(m, from, lates)) {
                    return false;
                }
            }
        }
        return true;
    }

    int rests(int from, int i) {
        if (bad(from, 0, 23)) {
            return OUTSIDE;
        }
        List<Integer> all = new ArrayList<>();
        int n = now.people.size();
        for (int number = 0; number < Math.pow(10, n); number++) {
            int[] lates = new int[n];
            int left = number;
            boolean four = true;
            for (int m = n - 1; m >= 0; m--) {
                lates[m] = left % 10;
                four = four && lates[m] <= 3;
                left /= 10;
            }
            if (four && atRest(from, lates)) {
                all.add(number);
            }
        }
        if (i == -1) {
            return all.size();
        }
        return i >= 0 && i < all.size() ? all.get(i) : NONE;
    }

    int laws(int from, int what) {
        if (bad(from, 0, 23) || bad(what, 0, 1)) {
            return OUTSIDE;
        }
        int[] found = {NONE, NONE};
        int least = Integer.MAX_VALUE;
        int number = 0;
        for (char which : "lmpf".toCharArray()) {
            for (int less = 0; less <= 5; less++) {
                int[] ring = tendsBy(less == 0 ? "" + which : "-" + less + which, from);
                if (ring[1] == 1 && content(ring[2]) < least) {
                    least = content(ring[2]);
                    found = new int[] {number, ring[2]};
                }
                number++;
            }
        }
        return found[what];
    }

    private boolean together(int set, int m, int[] lates, int from, int w, int h) {
        if (m == lates.length) {
            int hour = walk(now.law, from, w, lates);
            return h < from ? hour <= h : hour >= h;
        }
        if ((set & 1 << m) == 0) {
            return together(set, m + 1, lates, from, w, h);
        }
        int told = lates[m];
        for (int late = 0; late <= 5; late++) {
            lates[m] = late;
            if (together(set, m + 1, lates, from, w, h)) {
                return true;
            }
        }
        lates[m] = told;
        return false;
    }

    int move(int from, int w, int h) {
        if (bad(from, 0, 23) || bad(w, 1, 9) || bad(h, 0, 23)) {
            return OUTSIDE;
        }
        int n = now.people.size();
        int best = NONE;
        for (int set = 0; set < 1 << n; set++) {
            boolean fewer = best == NONE || Integer.bitCount(set) < Integer.bitCount(best);
            if (fewer && together(set, 0, toldLates(), from, w, h)) {
                best = set;
            }
        }
        return best;
    }

    // 4

    int seen(int w, int h) {
        if (bad(w, 0, 30) || bad(h, 0, 23)) {
            return OUTSIDE;
        }
        if (now.sights.size() == 6) {
            return FULL;
        }
        now.sights.add(new int[] {w, h});
        return now.sights.size();
    }

    int forget() {
        int was = now.sights.size();
        now.sights.clear();
        return was;
    }

    int could(int member, int from) {
        if (!known(member)) {
            return UNKNOWN;
        }
        if (bad(from, 0, 23)) {
            return OUTSIDE;
        }
        int bits = 0;
        for (int late = 0; late <= 5; late++) {
            int[] lates = toldLates();
            lates[member] = late;
            boolean all = true;
            for (int[] sight : now.sights) {
                all = all && walk(now.law, from, sight[0], lates) == sight[1];
            }
            bits += all ? (int) Math.round(Math.pow(2, late)) : 0;
        }
        return bits;
    }

    /** The sum of hours over all patterns of rain, each by its tenths. */
    private BigInteger sum(int hour, int w, int t, int r) {
        if (w == 0) {
            return BigInteger.valueOf(hour);
        }
        BigInteger dry = sum(step(now.law, hour, toldLates(), 0), w - 1, t, r);
        BigInteger wet = sum(step(now.law, hour, toldLates(), r), w - 1, t, r);
        return dry.multiply(BigInteger.valueOf(10 - t)).add(wet.multiply(BigInteger.valueOf(t)));
    }

    long rain(int from, int w, int t, int r, int part) {
        if (bad(from, 0, 23) || bad(w, 0, 8) || bad(t, 0, 10) || bad(r, 0, 9) || bad(part, 0, 1)) {
            return LOST + OUTSIDE;
        }
        BigInteger upper = sum(from, w, t, r);
        BigInteger lower = BigInteger.TEN.pow(w);
        BigInteger common = upper.gcd(lower);
        return (part == 0 ? upper : lower).divide(common).longValueExact();
    }

    int year(int seed, int w, int from, int what) {
        if (bad(seed, 0, 9999) || bad(w, 1, 99) || bad(from, 0, 23) || bad(what, 0, 2)) {
            return OUTSIDE;
        }
        long x = seed;
        List<Integer> hours = new ArrayList<>(Arrays.asList(from));
        int fines = 0;
        for (int i = 0; i < w; i++) {
            int[] lates = toldLates();
            for (int m = 0; m < lates.length; m++) {
                x = (75 * x + 74) % 65537;
                lates[m] += (int) (x % 3);
                fines += now.fine * lates[m];
            }
            hours.add(step(now.law, hours.get(i), lates, 0));
        }
        return what == 0 ? hours.get(w) : what == 1 ? Collections.max(hours) : fines;
    }

    int image(int n) {
        if (bad(n, 0, 1)) {
            return OUTSIDE;
        }
        images.put(n, now.copy());
        return 1;
    }

    int restore(int n) {
        if (bad(n, 0, 1)) {
            return OUTSIDE;
        }
        if (!images.containsKey(n)) {
            return STATE;
        }
        now = images.get(n).copy();
        return 1;
    }

    int told(int what) {
        List<Integer> first = Arrays.asList(pad.length(), now.people.size(), now.fine, now.law.length(),
            now.sights.size());
        if (what >= 0 && what < 5) {
            return first.get(what);
        }
        for (int row = 0; row < 3; row++) {
            for (int m = 0; m < now.people.size(); m++) {
                if (what == 10 * (row + 1) + m) {
                    return now.people.get(m)[row];
                }
            }
        }
        for (int i = 0; i < now.law.length(); i++) {
            if (what == 40 + i) {
                return now.law.charAt(i);
            }
        }
        return OUTSIDE;
    }
}
