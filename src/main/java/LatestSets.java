import java.util.Arrays;

/**
 * A guild whose board meets each week at the hour that a law makes of when
 * its members came the week ahead. README.md says how to use it.
 */
public final class LatestSets {
    public static final int NONE = -6, UNKNOWN = -1, OUTSIDE = -2, STATE = -3, FULL = -4, NO = -5;
    public static final long LOST = -1000000000000000000L;

    private static final int HOURS = 24;
    private static final int LAST_HOUR = 23;
    private static final int MOST_MEMBERS = 6;
    private static final int FIRST_MEMBERS = 4;
    private static final int FIRST_BEST = 12;
    private static final int MOST_LATE = 5;
    private static final int MOST_FINE = 9;
    private static final int PAD_SIGNS = 48;
    private static final int LAW_SIGNS = 20;
    private static final int MOST_SIGHTS = 6;
    private static final int MOST_SIGHT_WEEK = 30;
    private static final int MOST_WEEKS = 99;
    private static final int CHOICE_WEEKS = 4;
    private static final int MOVE_WEEKS = 9;
    private static final int RAIN_WEEKS = 8;
    private static final int MOST_SEED = 9999;
    private static final int TOLD_LAWS = 24;
    private static final int IMAGES = 2;
    /** More than any hours off and fines together. */
    private static final int MORE_THAN_ANY = 1000000;

    private final Guild guild;
    private final Pad pad;
    private final Board board;
    private final Ring ring;
    private final Choices choices;
    private final Chance chance;
    /** Null where none was kept; made once and written over. */
    private final Guild[] images;

    public LatestSets() {
        // Parts that others use are made as locals: a constructor hands out nothing of its own.
        Guild first = new Guild();
        Board walker = new Board(first);
        guild = first;
        board = walker;
        pad = new Pad();
        ring = new Ring(walker);
        choices = new Choices(walker);
        chance = new Chance(walker);
        images = new Guild[IMAGES];
    }

    // ---- 1 members, laws

    public int members(int n) {
        if (!within(n, 1, MOST_MEMBERS)) {
            return OUTSIDE;
        }
        int was = guild.count;
        guild.assemble(n);
        return was;
    }

    public int member(int member, int what, int v) {
        if (!guild.has(member)) {
            return UNKNOWN;
        }
        if (!within(what, 0, 2) || !within(v, 0, what == 1 ? MOST_LATE : LAST_HOUR)) {
            return OUTSIDE;
        }
        int[] row = guild.rowOf(what);
        int was = row[member];
        row[member] = v;
        return was;
    }

    public int fine(int v) {
        if (!within(v, 0, MOST_FINE)) {
            return OUTSIDE;
        }
        int was = guild.fineEach;
        guild.fineEach = v;
        return was;
    }

    public int say(int sign) {
        if (!within(sign, 33, 126)) {
            return OUTSIDE;
        }
        if (pad.count >= PAD_SIGNS) {
            return FULL;
        }
        return pad.write(sign);
    }

    public int wipe() {
        int was = pad.count;
        pad.count = 0;
        return was;
    }

    public int fault() {
        return pad.firstFault();
    }

    public int enact() {
        if (pad.firstFault() != NONE) {
            return NO;
        }
        guild.law.take(pad.signs, pad.count);
        pad.count = 0;
        return guild.law.length;
    }

    // ---- 2 weeks

    public int hour(int from, int w) {
        if (!isHour(from) || !within(w, 0, MOST_WEEKS)) {
            return OUTSIDE;
        }
        return board.hourAfter(from, w, guild.late);
    }

    public int comes(int member, int from, int w) {
        if (!guild.has(member)) {
            return UNKNOWN;
        }
        if (!isHour(from) || !within(w, 0, MOST_WEEKS)) {
            return OUTSIDE;
        }
        int hour = board.hourAfter(from, w, guild.late);
        return comingAt(hour, guild.early[member], guild.late[member]);
    }

    public int tends(int from, int what) {
        if (!isHour(from) || !within(what, 0, 2)) {
            return OUTSIDE;
        }
        ring.follow(guild.law, from);
        if (what == 0) {
            return ring.ahead;
        }
        return what == 1 ? ring.length : ring.least;
    }

    public int paid(int member, int w) {
        if (!guild.has(member)) {
            return UNKNOWN;
        }
        if (!within(w, 0, MOST_WEEKS)) {
            return OUTSIDE;
        }
        return guild.fineEach * guild.late[member] * w;
    }

    public int content(int hour) {
        return isHour(hour) ? guild.farFromBest(hour) : OUTSIDE;
    }

    // ---- 3 choices

    public int choice(int member, int from, int w, int i) {
        if (!guild.has(member)) {
            return UNKNOWN;
        }
        if (!isHour(from) || !within(w, 1, CHOICE_WEEKS) || !within(i, -1, w - 1)) {
            return OUTSIDE;
        }
        choices.weigh(member, w);
        return i < 0 ? choices.leastCost(from) : choices.lateInWeek(member, from, i);
    }

    public int rests(int from, int i) {
        if (!isHour(from)) {
            return OUTSIDE;
        }
        if (i < -1) {
            return NONE;
        }
        choices.tabulate(from);
        return i < 0 ? choices.restCount() : choices.restAt(i);
    }

    public int laws(int from, int what) {
        if (!isHour(from) || !within(what, 0, 1)) {
            return OUTSIDE;
        }
        int number = ring.bestToldLaw(from);
        if (number == NONE || what == 0) {
            return number;
        }
        return ring.restUnder(number, from);
    }

    public int move(int from, int w, int h) {
        if (!isHour(from) || !isHour(h) || !within(w, 1, MOVE_WEEKS)) {
            return OUTSIDE;
        }
        return choices.leastMovers(from, w, h);
    }

    // ---- 4 what was seen, rain, years

    public int seen(int w, int h) {
        if (!within(w, 0, MOST_SIGHT_WEEK) || !isHour(h)) {
            return OUTSIDE;
        }
        if (guild.sights >= MOST_SIGHTS) {
            return FULL;
        }
        return guild.addSight(w, h);
    }

    public int forget() {
        int was = guild.sights;
        guild.sights = 0;
        return was;
    }

    public int could(int member, int from) {
        if (!guild.has(member)) {
            return UNKNOWN;
        }
        return isHour(from) ? board.latesThatFit(member, from) : OUTSIDE;
    }

    public long rain(int from, int w, int t, int r, int part) {
        if (!isHour(from) || !within(w, 0, RAIN_WEEKS) || !within(t, 0, 10)
                || !within(r, 0, 9) || !within(part, 0, 1)) {
            return LOST + OUTSIDE;
        }
        chance.rainOn(from, w, t, r);
        return part == 0 ? chance.upper : chance.lower;
    }

    public int year(int seed, int w, int from, int what) {
        if (!within(seed, 0, MOST_SEED) || !within(w, 1, MOST_WEEKS)
                || !isHour(from) || !within(what, 0, 2)) {
            return OUTSIDE;
        }
        chance.drawYear(seed, w, from);
        if (what == 0) {
            return chance.lastHour;
        }
        return what == 1 ? chance.latestHour : chance.fines;
    }

    public int image(int n) {
        if (!within(n, 0, IMAGES - 1)) {
            return OUTSIDE;
        }
        Guild kept = images[n];
        if (kept == null) {
            kept = new Guild();
            images[n] = kept;
        }
        kept.become(guild);
        return 1;
    }

    public int restore(int n) {
        if (!within(n, 0, IMAGES - 1)) {
            return OUTSIDE;
        }
        Guild kept = images[n];
        if (kept == null) {
            return STATE;
        }
        guild.become(kept);
        return 1;
    }

    public int told(int what) {
        switch (what) {
            case 0: return pad.count;
            case 1: return guild.count;
            case 2: return guild.fineEach;
            case 3: return guild.law.length;
            case 4: return guild.sights;
            default: return toldOfRows(what);
        }
    }

    private int toldOfRows(int what) {
        if (within(what, 10, 39)) {
            return guild.toldOfMember(what / 10 - 1, what % 10);
        }
        if (what >= 40 && what - 40 < guild.law.length) {
            return guild.law.signs[what - 40];
        }
        return OUTSIDE;
    }

    private static boolean within(int v, int least, int most) {
        return v >= least && v <= most;
    }

    private static boolean isHour(int v) {
        return v >= 0 && v <= LAST_HOUR;
    }

    private static int comingAt(int hour, int early, int late) {
        return Math.min(LAST_HOUR, Math.max(hour, early) + late);
    }

    /** The text of a law, with no fault in it. */
    private static final class Law {
        final int[] signs = new int[LAW_SIGNS];
        int length;

        Law() {
            signs[0] = 'l';
            length = 1;
        }

        void take(int[] text, int count) {
            length = Math.min(count, LAW_SIGNS);
            System.arraycopy(text, 0, signs, 0, length);
        }

        /** Becomes the told law of a number: 6 times which, and so much less. */
        void takeNumber(int number) {
            signs[0] = '-';
            signs[1] = '0' + number % 6;
            signs[2] = signOf(number / 6);
            length = 3;
        }

        private static int signOf(int which) {
            switch (which) {
                case 0: return 'l';
                case 1: return 'm';
                case 2: return 'p';
                default: return 'f';
            }
        }
    }

    /** The pad, and where the text on it goes wrong. */
    private static final class Pad {
        final int[] signs = new int[PAD_SIGNS];
        int count;

        int write(int sign) {
            if (count < PAD_SIGNS) {
                signs[count] = sign;
                count++;
            }
            return count;
        }

        int firstFault() {
            int due = 1;
            boolean digitDue = false;
            for (int at = 0; at < count; at++) {
                if (at >= LAW_SIGNS || due == 0) {
                    return at;
                }
                int sign = signs[at];
                if (digitDue) {
                    if (sign < '0' || sign > '9') {
                        return at;
                    }
                    digitDue = false;
                } else if (partsOf(sign) < 0) {
                    return at;
                } else {
                    due += partsOf(sign) - 1;
                    digitDue = sign == '-' || sign == '+';
                }
            }
            return due > 0 ? count : NONE;
        }

        /** How many parts a sign stands ahead of; -1 if it begins none. */
        private static int partsOf(int sign) {
            switch (sign) {
                case 'l': case 'f': case 'm': case 'p': case 'h':
                    return 0;
                case '~': case '-': case '+':
                    return 1;
                case '<': case '>': case '/':
                    return 2;
                default:
                    return -1;
            }
        }
    }

    /** All that an image keeps. */
    private static final class Guild {
        final int[] early = new int[MOST_MEMBERS];
        final int[] late = new int[MOST_MEMBERS];
        final int[] best = new int[MOST_MEMBERS];
        final Law law = new Law();
        final int[] sightWeek = new int[MOST_SIGHTS];
        final int[] sightHour = new int[MOST_SIGHTS];
        int sights;
        int count;
        int fineEach;

        Guild() {
            fineEach = 1;
            count = FIRST_MEMBERS;
            Arrays.fill(best, FIRST_BEST);
        }

        void assemble(int n) {
            count = n;
            sights = 0;
            Arrays.fill(early, 0);
            Arrays.fill(late, 0);
            Arrays.fill(best, FIRST_BEST);
        }

        void become(Guild other) {
            count = other.count;
            fineEach = other.fineEach;
            sights = other.sights;
            law.take(other.law.signs, other.law.length);
            System.arraycopy(other.early, 0, early, 0, MOST_MEMBERS);
            System.arraycopy(other.late, 0, late, 0, MOST_MEMBERS);
            System.arraycopy(other.best, 0, best, 0, MOST_MEMBERS);
            System.arraycopy(other.sightWeek, 0, sightWeek, 0, MOST_SIGHTS);
            System.arraycopy(other.sightHour, 0, sightHour, 0, MOST_SIGHTS);
        }

        boolean has(int member) {
            return member >= 0 && member < count;
        }

        int[] rowOf(int what) {
            if (what == 0) {
                return early;
            }
            return what == 1 ? late : best;
        }

        int toldOfMember(int what, int member) {
            return has(member) ? rowOf(what)[member] : OUTSIDE;
        }

        int addSight(int week, int hour) {
            if (sights < MOST_SIGHTS) {
                sightWeek[sights] = week;
                sightHour[sights] = hour;
                sights++;
            }
            return sights;
        }

        int farFromBest(int hour) {
            int far = 0;
            for (int m = 0; m < count; m++) {
                far += Math.abs(hour - best[m]);
            }
            return far;
        }
    }

    /** Makes one hour of another by a law, and walks through the weeks. */
    private static final class Board {
        final Guild guild;
        /** How late each comes while it is tried out; the others as told. */
        final int[] trial = new int[MOST_MEMBERS];
        private final int[] came = new int[MOST_MEMBERS];
        private final int[] stack = new int[LAW_SIGNS];
        private int height;

        Board(Guild guild) {
            this.guild = guild;
        }

        void tryAsTold() {
            System.arraycopy(guild.late, 0, trial, 0, MOST_MEMBERS);
        }

        int nextHour(Law law, int hour, int[] late, int laterEarly) {
            for (int m = 0; m < guild.count; m++) {
                insert(m, comingAt(hour, guild.early[m] + laterEarly, late[m]));
            }
            int made = madeBy(law, hour);
            return Math.max(0, Math.min(LAST_HOUR, made));
        }

        int hourAfter(int from, int weeks, int[] late) {
            int hour = from;
            for (int week = 0; week < weeks; week++) {
                int next = nextHour(guild.law, hour, late, 0);
                if (next == hour) {
                    // It stays for good: the weeks left need no walking.
                    return hour;
                }
                hour = next;
            }
            return hour;
        }

        int latesThatFit(int member, int from) {
            tryAsTold();
            int bits = 0;
            for (int late = 0; late <= MOST_LATE; late++) {
                trial[member] = late;
                if (allSightsHold(from)) {
                    bits |= 1 << late;
                }
            }
            return bits;
        }

        private boolean allSightsHold(int from) {
            for (int s = 0; s < guild.sights; s++) {
                if (hourAfter(from, guild.sightWeek[s], trial) != guild.sightHour[s]) {
                    return false;
                }
            }
            return true;
        }

        /** The first ones of the row are in order; so they are with one more. */
        private void insert(int first, int time) {
            int at = first;
            while (at > 0 && came[at - 1] > time) {
                came[at] = came[at - 1];
                at--;
            }
            came[at] = time;
        }

        /** Reads the law from its end, so that parts are there ahead of what joins them. */
        private int madeBy(Law law, int hour) {
            height = 0;
            int digit = 0;
            for (int at = law.length - 1; at >= 0; at--) {
                int sign = law.signs[at];
                switch (sign) {
                    case '<': push(Math.min(pop(), pop())); break;
                    case '>': push(Math.max(pop(), pop())); break;
                    case '/': push((pop() + pop()) / 2); break;
                    case '~': push(LAST_HOUR - pop()); break;
                    case '-': push(pop() - digit); break;
                    case '+': push(pop() + digit); break;
                    case 'h': push(hour); break;
                    case 'l': case 'f': case 'm': case 'p':
                        push(came[placeOf(sign)]);
                        break;
                    default: digit = sign - '0'; break;
                }
            }
            return pop();
        }

        /** Where in the order the one stands whom a sign means. */
        private int placeOf(int sign) {
            int last = guild.count - 1;
            switch (sign) {
                case 'l': return last;
                case 'm': return last / 2;
                case 'p': return Math.max(0, last - 1);
                default: return 0;
            }
        }

        private void push(int value) {
            if (height < LAW_SIGNS) {
                stack[height] = value;
                height++;
            }
        }

        private int pop() {
            if (height > 0) {
                height--;
                return stack[height];
            }
            return 0;
        }
    }

    /** Where hours tend under a law. */
    private static final class Ring {
        private final Board board;
        private final Law toldLaw = new Law();
        private final int[] firstWeek = new int[HOURS];
        int ahead;
        int length;
        int least;

        Ring(Board board) {
            this.board = board;
        }

        void follow(Law law, int from) {
            Arrays.fill(firstWeek, -1);
            int hour = from;
            int week = 0;
            while (week < HOURS && firstWeek[hour] < 0) {
                firstWeek[hour] = week;
                week++;
                hour = board.nextHour(law, hour, board.guild.late, 0);
            }
            ahead = firstWeek[hour];
            length = week - ahead;
            least = hour;
            for (int h = 0; h < least; h++) {
                if (firstWeek[h] >= ahead) {
                    least = h;
                }
            }
        }

        int bestToldLaw(int from) {
            int bestNumber = NONE;
            int leastFar = MORE_THAN_ANY;
            for (int number = 0; number < TOLD_LAWS; number++) {
                int rest = restUnder(number, from);
                if (rest == NONE) {
                    continue;
                }
                int far = board.guild.farFromBest(rest);
                if (far < leastFar) {
                    leastFar = far;
                    bestNumber = number;
                }
            }
            return bestNumber;
        }

        /** The one hour at which it comes to rest under a told law; NONE, if it does not. */
        int restUnder(int number, int from) {
            toldLaw.takeNumber(number);
            follow(toldLaw, from);
            return length == 1 ? least : NONE;
        }
    }

    /** How late members would come of their own will. */
    private static final class Choices {
        /** How late one may come in a week that is weighed for rest is 0 to 3: two bits a member. */
        private static final int REST_LATES = 4;
        private static final int REST_WAYS = 4096;

        private final Board board;
        /** By week and hour: the least that the weeks left cost, and the first lateness that has it. */
        private final int[][] cost = new int[CHOICE_WEEKS + 1][HOURS];
        private final int[][] pick = new int[CHOICE_WEEKS][HOURS];
        /** The next hour by how late all come, member 0 in the highest bits. */
        private final int[] nextBy = new int[REST_WAYS];

        Choices(Board board) {
            this.board = board;
        }

        void weigh(int member, int weeks) {
            board.tryAsTold();
            Arrays.fill(cost[weeks], 0);
            for (int week = weeks - 1; week >= 0; week--) {
                for (int hour = 0; hour < HOURS; hour++) {
                    weighHour(member, week, hour);
                }
            }
        }

        int leastCost(int from) {
            return cost[0][from];
        }

        int lateInWeek(int member, int from, int week) {
            int hour = from;
            for (int k = 0; k < week; k++) {
                hour = nextIf(member, hour, pick[k][hour]);
            }
            return pick[week][hour];
        }

        private void weighHour(int member, int week, int hour) {
            int least = MORE_THAN_ANY;
            for (int late = 0; late <= MOST_LATE; late++) {
                int next = nextIf(member, hour, late);
                int all = costOf(member, next, late) + cost[week + 1][next];
                if (all < least) {
                    least = all;
                    pick[week][hour] = late;
                }
            }
            cost[week][hour] = least;
        }

        private int nextIf(int member, int hour, int late) {
            board.trial[member] = late;
            return board.nextHour(board.guild.law, hour, board.trial, 0);
        }

        private int costOf(int member, int next, int late) {
            return Math.abs(next - board.guild.best[member]) + board.guild.fineEach * late;
        }

        void tabulate(int from) {
            int ways = restWays();
            for (int way = 0; way < ways; way++) {
                for (int m = 0; m < board.guild.count; m++) {
                    board.trial[m] = lateIn(way, m);
                }
                nextBy[way] = board.nextHour(board.guild.law, from, board.trial, 0);
            }
        }

        int restCount() {
            int ways = restWays();
            int found = 0;
            for (int way = 0; way < ways; way++) {
                if (isRest(way)) {
                    found++;
                }
            }
            return found;
        }

        int restAt(int i) {
            int ways = restWays();
            int found = 0;
            for (int way = 0; way < ways; way++) {
                if (isRest(way)) {
                    if (found == i) {
                        return digitsOf(way);
                    }
                    found++;
                }
            }
            return NONE;
        }

        private int restWays() {
            return Math.min(REST_WAYS, 1 << 2 * board.guild.count);
        }

        private int shiftOf(int m) {
            return 2 * (board.guild.count - 1 - m);
        }

        private int lateIn(int way, int m) {
            return way >> shiftOf(m) & 3;
        }

        private boolean isRest(int way) {
            for (int m = 0; m < board.guild.count; m++) {
                int late = lateIn(way, m);
                int others = way - (late << shiftOf(m));
                int now = costOf(m, nextBy[way], late);
                for (int other = 0; other < REST_LATES; other++) {
                    int next = nextBy[others + (other << shiftOf(m))];
                    if (costOf(m, next, other) < now) {
                        return false;
                    }
                }
            }
            return true;
        }

        private int digitsOf(int way) {
            int number = 0;
            for (int m = 0; m < board.guild.count; m++) {
                number = 10 * number + lateIn(way, m);
            }
            return number;
        }

        int leastMovers(int from, int weeks, int goal) {
            int count = board.guild.count;
            for (int size = 0; size <= count; size++) {
                for (int set = 0; set < 1 << count; set++) {
                    if (Integer.bitCount(set) == size && canMove(set, from, weeks, goal)) {
                        return set;
                    }
                }
            }
            return NONE;
        }

        private boolean canMove(int set, int from, int weeks, int goal) {
            board.tryAsTold();
            int ways = 1;
            for (int k = 0; k < Integer.bitCount(set); k++) {
                ways *= MOST_LATE;
            }
            for (int way = 0; way < ways; way++) {
                tryWay(set, way);
                int hour = board.hourAfter(from, weeks, board.trial);
                if (goal < from ? hour <= goal : hour >= goal) {
                    return true;
                }
            }
            return false;
        }

        /**
         * Each of the set is late otherwise than told: one who is late as told
         * adds nothing, and the smaller set without him was tried ahead.
         */
        private void tryWay(int set, int way) {
            int left = way;
            for (int m = 0; m < board.guild.count; m++) {
                if ((set >> m & 1) != 0) {
                    int late = left % MOST_LATE;
                    left /= MOST_LATE;
                    board.trial[m] = late < board.guild.late[m] ? late : late + 1;
                }
            }
        }
    }

    /** Rain by chance, and years by draws. */
    private static final class Chance {
        private final Board board;
        private final long[] weight = new long[HOURS];
        private final long[] nextWeight = new long[HOURS];
        long upper;
        long lower;
        int lastHour;
        int latestHour;
        int fines;

        Chance(Board board) {
            this.board = board;
        }

        /** Leaves the mean hour in upper and lower. */
        void rainOn(int from, int weeks, int tenths, int later) {
            Arrays.fill(weight, 0L);
            weight[from] = 1L;
            lower = 1L;
            for (int week = 0; week < weeks; week++) {
                rainOneWeek(tenths, later);
                lower *= 10L;
            }
            upper = 0L;
            for (int hour = 0; hour < HOURS; hour++) {
                upper += hour * weight[hour];
            }
            // The lower one is a power of ten: it has no other divisors than these.
            cancel(2L, weeks);
            cancel(5L, weeks);
        }

        private void rainOneWeek(int tenths, int later) {
            Arrays.fill(nextWeight, 0L);
            for (int hour = 0; hour < HOURS; hour++) {
                if (weight[hour] != 0L) {
                    int dry = board.nextHour(board.guild.law, hour, board.guild.late, 0);
                    int wet = board.nextHour(board.guild.law, hour, board.guild.late, later);
                    nextWeight[dry] += weight[hour] * (10 - tenths);
                    nextWeight[wet] += weight[hour] * tenths;
                }
            }
            System.arraycopy(nextWeight, 0, weight, 0, HOURS);
        }

        private void cancel(long divisor, int times) {
            if (divisor == 0L) {
                return;
            }
            for (int k = 0; k < times; k++) {
                if (upper % divisor == 0L && lower % divisor == 0L) {
                    upper /= divisor;
                    lower /= divisor;
                }
            }
        }

        /** Leaves the last hour, the latest one and all fines in their fields. */
        void drawYear(int seed, int weeks, int from) {
            int x = seed;
            lastHour = from;
            latestHour = from;
            fines = 0;
            for (int week = 0; week < weeks; week++) {
                for (int m = 0; m < board.guild.count; m++) {
                    x = (75 * x + 74) % 65537;
                    board.trial[m] = board.guild.late[m] + x % 3;
                    fines += board.guild.fineEach * board.trial[m];
                }
                lastHour = board.nextHour(board.guild.law, lastHour, board.trial, 0);
                latestHour = Math.max(latestHour, lastHour);
            }
        }
    }
}
