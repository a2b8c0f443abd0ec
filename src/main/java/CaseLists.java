import java.util.ArrayList;

/** Tests of an alarm system by lists; what each call promises stands in the document DOC.md. */
public final class CaseLists {
    public static final int NONE = -1;

    private static final int POINTS = 30;
    private static final int CASES = 24;
    private static final int ACTS = 8;
    private static final int PLACES = 10;
    private static final int PERSONS = 10;
    private static final int LAST_DAY = 100000;
    private static final int MOST_SECONDS = 10000;
    private static final int MOST_LIFE = 5000;
    private static final int RESULTS = 32;
    // An object is used for 512 calls, so no more days than this can be touched.
    private static final int TOUCH_DAYS = 512;
    // A result begins to count once and ceases once; a touch can only end it earlier.
    private static final int MOST_TURNS = 2 * RESULTS + TOUCH_DAYS;

    private static final int OPEN = 0;
    private static final int FAILED = 1;
    private static final int DIFFERS = 2;
    private static final int PROVED = 3;
    private static final int STATES = 4;

    private final int life;
    private final ArrayList<Case> cases;
    private final TouchLog touches;
    private final Tours tours;
    private final int[] planActs;
    private int planLength;
    private int planSeconds;

    public CaseLists(int life) {
        this.life = Math.max(1, Math.min(MOST_LIFE, life));
        this.cases = new ArrayList<Case>();
        this.touches = new TouchLog();
        this.tours = new Tours();
        this.planActs = new int[ACTS];
        this.planLength = 0;
        this.planSeconds = 0;
    }

    public int fault(int point, int other) throws IllegalArgumentException, IllegalStateException {
        needBelow(point, POINTS);
        if (other != NONE) {
            needBelow(other, POINTS);
        }
        needOther(point, other);
        int known = caseOf(point, other);
        if (known != NONE) {
            return known;
        }
        needRoom(cases.size(), CASES);
        cases.add(new Case(point, other));
        return cases.size() - 1;
    }

    public int act(int place, int seconds) throws IllegalArgumentException, IllegalStateException {
        needBelow(place, PLACES);
        needWithin(seconds, 1, MOST_SECONDS);
        needRoom(tours.actCount(), ACTS);
        return tours.addAct(place, seconds);
    }

    public boolean shows(int act, int fault, boolean on) throws IllegalArgumentException {
        needBelow(act, tours.actCount());
        needBelow(fault, cases.size());
        return tours.setShown(act, fault, on);
    }

    public int way(int place, int other, int seconds) throws IllegalArgumentException {
        needBelow(place, PLACES);
        needBelow(other, PLACES);
        needOther(place, other);
        needWithin(seconds, 0, MOST_SECONDS);
        return tours.setWay(place, other, seconds);
    }

    public int change(int point, int day) throws IllegalArgumentException {
        needBelow(point, POINTS);
        needDay(day);
        int set = casesWith(point);
        touches.note(day, set);
        return Integer.bitCount(set);
    }

    public int result(int fault, int person, int day, boolean good)
            throws IllegalArgumentException, IllegalStateException {
        needBelow(fault, cases.size());
        needBelow(person, PERSONS);
        needDay(day);
        Case told = cases.get(fault);
        int row = told.rowOf(person, day);
        needRoom(row, RESULTS);
        told.tell(row, person, day, good);
        return told.resultCount();
    }

    // ---- plans

    public int plan(int day) throws IllegalArgumentException {
        needDay(day);
        int needed = unprovedCases(day) & tours.shownByAny();
        planLength = tours.findOrder(needed, planActs);
        planSeconds = tours.secondsOf(planActs, planLength);
        return planLength;
    }

    public int planned(int k) throws IllegalArgumentException {
        needBelow(k, planLength);
        return planActs[k];
    }

    public int seconds() {
        return planSeconds;
    }

    public int from(int act) throws IllegalArgumentException {
        needBelow(act, tours.actCount());
        return tours.leastSecondsFrom(act);
    }

    // ---- what is told

    public int state(int fault, int day) throws IllegalArgumentException {
        needBelow(fault, cases.size());
        needDay(day);
        return stateOn(fault, day);
    }

    public int word(int fault, int person, int day) throws IllegalArgumentException {
        needBelow(fault, cases.size());
        needBelow(person, PERSONS);
        needDay(day);
        return cases.get(fault).wordOf(person, firstCountingDay(fault, day), day);
    }

    public int listed(int state, int day, int k) throws IllegalArgumentException {
        needBelow(state, STATES);
        needDay(day);
        needNotNegative(k);
        int left = k;
        for (int i = 0; i < cases.size(); i++) {
            if (stateOn(i, day) == state) {
                if (left == 0) {
                    return i;
                }
                left--;
            }
        }
        return NONE;
    }

    public int hidden(int k) throws IllegalArgumentException {
        needNotNegative(k);
        int shown = tours.shownByAny();
        int left = k;
        for (int i = 0; i < cases.size(); i++) {
            if (!holds(shown, i)) {
                if (left == 0) {
                    return i;
                }
                left--;
            }
        }
        return NONE;
    }

    public int proves(int fault, int day) throws IllegalArgumentException {
        needBelow(fault, cases.size());
        needDay(day);
        // A state lasts from one turn to the next, so the days between them need no look.
        int at = day;
        for (int i = 0; i <= MOST_TURNS; i++) {
            if (stateOn(fault, at) != PROVED) {
                return at;
            }
            at = nextTurn(fault, at);
        }
        return at;
    }

    public int touched(int fault, int day) throws IllegalArgumentException {
        needBelow(fault, cases.size());
        needDay(day);
        return touches.latest(fault, day);
    }

    // ---- inside

    private static void needBelow(int number, int bound) {
        needWithin(number, 0, bound - 1);
    }

    private static void needDay(int day) {
        needWithin(day, 0, LAST_DAY);
    }

    private static void needNotNegative(int k) {
        if (k < 0) {
            throw new IllegalArgumentException("k is below 0");
        }
    }

    private static void needWithin(int number, int least, int most) {
        if (number < least || number > most) {
            throw new IllegalArgumentException("a number is out of its bounds");
        }
    }

    private static void needOther(int one, int other) {
        if (one == other) {
            throw new IllegalArgumentException("both are one");
        }
    }

    private static void needRoom(int used, int room) {
        if (used >= room) {
            throw new IllegalStateException("there is no room for one more");
        }
    }

    private static boolean holds(int set, int number) {
        return (set & (1 << number)) != 0;
    }

    private int caseOf(int point, int other) {
        for (int i = 0; i < cases.size(); i++) {
            if (cases.get(i).isOf(point, other)) {
                return i;
            }
        }
        return NONE;
    }

    private int casesWith(int point) {
        int set = 0;
        for (int i = 0; i < cases.size(); i++) {
            if (cases.get(i).has(point)) {
                set |= 1 << i;
            }
        }
        return set;
    }

    private int unprovedCases(int day) {
        int set = 0;
        for (int i = 0; i < cases.size(); i++) {
            if (stateOn(i, day) != PROVED) {
                set |= 1 << i;
            }
        }
        return set;
    }

    private int firstCountingDay(int fault, int day) {
        // NONE lies just before day 0, so an untouched case needs no test of its own.
        return Math.max(day - life, touches.latest(fault, day) + 1);
    }

    private int stateOn(int fault, int day) {
        Case asked = cases.get(fault);
        int first = firstCountingDay(fault, day);
        int good = 0;
        int bad = 0;
        for (int person = 0; person < PERSONS; person++) {
            int said = asked.wordOf(person, first, day);
            if (said == 1) {
                good++;
            } else if (said == 0) {
                bad++;
            }
        }
        if (bad > 0) {
            return good > 0 ? DIFFERS : FAILED;
        }
        return good >= 2 ? PROVED : OPEN;
    }

    private int nextTurn(int fault, int day) {
        int next = LAST_DAY + MOST_LIFE + 1;
        int touch = touches.nextBehind(fault, day);
        if (touch != NONE) {
            next = Math.min(next, touch);
        }
        return cases.get(fault).nextTurn(day, life, next);
    }

    /** One case: its points, and the results that were told of it. */
    private static final class Case {
        private final int point;
        private final int other;
        private final int[] persons;
        private final int[] days;
        private final boolean[] goods;
        private int count;

        Case(int point, int other) {
            this.point = point;
            this.other = other;
            this.persons = new int[RESULTS];
            this.days = new int[RESULTS];
            this.goods = new boolean[RESULTS];
            this.count = 0;
        }

        boolean isOf(int one, int two) {
            return point == one && other == two || point == two && other == one;
        }

        boolean has(int asked) {
            return point == asked || other == asked;
        }

        int resultCount() {
            return count;
        }

        /** The row of the person's result for the day, or the row that a new one would get. */
        int rowOf(int person, int day) {
            for (int i = 0; i < count; i++) {
                if (persons[i] == person && days[i] == day) {
                    return i;
                }
            }
            return count;
        }

        void tell(int row, int person, int day, boolean good) {
            if (row < 0 || row >= RESULTS) {
                return;
            }
            persons[row] = person;
            days[row] = day;
            goods[row] = good;
            count = Math.max(count, row + 1);
        }

        /** The person's latest result among the days from first to last: 1 good, 0 not, or NONE. */
        int wordOf(int person, int first, int last) {
            int latest = NONE;
            int said = NONE;
            for (int i = 0; i < count; i++) {
                if (persons[i] == person && days[i] >= first && days[i] <= last && days[i] > latest) {
                    latest = days[i];
                    said = goods[i] ? 1 : 0;
                }
            }
            return said;
        }

        /** The first day behind a day, up to most, on which a result begins or ceases to count by its age. */
        int nextTurn(int day, int life, int most) {
            int next = most;
            for (int i = 0; i < count; i++) {
                int ends = days[i] + life + 1;
                if (days[i] > day) {
                    next = Math.min(next, days[i]);
                } else if (ends > day) {
                    next = Math.min(next, ends);
                }
            }
            return next;
        }
    }

    /** The days on which cases were touched, each with the set of these cases. */
    private static final class TouchLog {
        private final int[] days;
        private final int[] sets;
        private int count;

        TouchLog() {
            this.days = new int[TOUCH_DAYS];
            this.sets = new int[TOUCH_DAYS];
            this.count = 0;
        }

        void note(int day, int set) {
            for (int i = 0; i < count; i++) {
                if (days[i] == day) {
                    sets[i] |= set;
                    return;
                }
            }
            // The row can only be full behind the 512th call, where every answer is free.
            if (set != 0 && count < TOUCH_DAYS) {
                days[count] = day;
                sets[count] = set;
                count++;
            }
        }

        int latest(int fault, int day) {
            int found = NONE;
            for (int i = 0; i < count; i++) {
                if (days[i] <= day && days[i] > found && holds(sets[i], fault)) {
                    found = days[i];
                }
            }
            return found;
        }

        int nextBehind(int fault, int day) {
            int found = NONE;
            for (int i = 0; i < count; i++) {
                boolean earlier = found == NONE || days[i] < found;
                if (days[i] > day && earlier && holds(sets[i], fault)) {
                    found = days[i];
                }
            }
            return found;
        }
    }

    /** The acts, what they show, the ways between their places, and the best orders of acts. */
    private static final class Tours {
        private static final int SETS = 1 << ACTS;
        // A weight is seconds * 16 + acts: the lesser weight has less seconds, or as many and fewer acts.
        private static final int WEIGHT_SHIFT = 4;
        private static final int FAR = 1 << 28;

        private final int[] places;
        private final int[] durations;
        private final int[] shown;
        private final int[] ways;
        // The least weight of what must follow, by the set of acts that are done and the last of them.
        private final int[] rests;
        private int count;

        Tours() {
            this.places = new int[ACTS];
            this.durations = new int[ACTS];
            this.shown = new int[ACTS];
            this.ways = new int[PLACES * PLACES];
            this.rests = new int[SETS * ACTS];
            this.count = 0;
        }

        int actCount() {
            return count;
        }

        int addAct(int place, int duration) {
            if (count >= ACTS) {
                return NONE;
            }
            places[count] = place;
            durations[count] = duration;
            count++;
            return count - 1;
        }

        boolean setShown(int act, int fault, boolean on) {
            boolean before = holds(shown[act], fault);
            if (on) {
                shown[act] |= 1 << fault;
            } else {
                shown[act] &= ~(1 << fault);
            }
            return before;
        }

        int setWay(int place, int other, int duration) {
            int before = ways[place * PLACES + other];
            ways[place * PLACES + other] = duration;
            ways[other * PLACES + place] = duration;
            return before;
        }

        int shownByAny() {
            return shownBy((1 << count) - 1);
        }

        int leastSecondsFrom(int act) {
            if (shown[act] == 0) {
                return NONE;
            }
            weighRests(shownByAny());
            return weightOfFirst(act) >> WEIGHT_SHIFT;
        }

        /** Writes the best order of acts that shows the needed cases, and answers how many they are. */
        int findOrder(int needed, int[] order) {
            weighRests(needed);
            int done = 0;
            int length = 0;
            for (int i = 0; i < count && i < order.length; i++) {
                if (covers(done, needed)) {
                    return length;
                }
                int next = length == 0 ? bestFirst() : bestNext(done, order[length - 1]);
                if (next == NONE) {
                    return length;
                }
                order[length] = next;
                length++;
                done |= 1 << next;
            }
            return length;
        }

        int secondsOf(int[] order, int length) {
            int sum = 0;
            for (int i = 0; i < length && i < order.length; i++) {
                sum += durations[order[i]];
                if (i > 0) {
                    sum += wayBetween(order[i - 1], order[i]);
                }
            }
            return sum;
        }

        private int shownBy(int acts) {
            int set = 0;
            for (int i = 0; i < count; i++) {
                if (holds(acts, i)) {
                    set |= shown[i];
                }
            }
            return set;
        }

        private boolean covers(int acts, int needed) {
            return (needed & ~shownBy(acts)) == 0;
        }

        private int wayBetween(int act, int next) {
            return ways[places[act] * PLACES + places[next]];
        }

        private void weighRests(int needed) {
            // A set's rests rest on those of greater sets, which are greater numbers.
            for (int done = (1 << count) - 1; done > 0; done--) {
                boolean enough = covers(done, needed);
                for (int last = 0; last < count; last++) {
                    if (holds(done, last)) {
                        rests[done * ACTS + last] = enough ? 0 : leastRest(done, last);
                    }
                }
            }
        }

        private int leastRest(int done, int last) {
            int least = FAR;
            for (int next = 0; next < count; next++) {
                if (!holds(done, next)) {
                    least = Math.min(least, weightOfNext(done, last, next));
                }
            }
            return least;
        }

        private int weightOfFirst(int act) {
            return weight(durations[act]) + rests[(1 << act) * ACTS + act];
        }

        private int weightOfNext(int done, int last, int next) {
            int own = weight(wayBetween(last, next) + durations[next]);
            return own + rests[(done | 1 << next) * ACTS + next];
        }

        private static int weight(int duration) {
            return (duration << WEIGHT_SHIFT) + 1;
        }

        private int bestFirst() {
            int best = NONE;
            int least = FAR;
            for (int act = 0; act < count; act++) {
                int weight = weightOfFirst(act);
                if (weight < least) {
                    least = weight;
                    best = act;
                }
            }
            return best;
        }

        private int bestNext(int done, int last) {
            int best = NONE;
            int least = FAR;
            for (int next = 0; next < count; next++) {
                int weight = holds(done, next) ? FAR : weightOfNext(done, last, next);
                if (weight < least) {
                    least = weight;
                    best = next;
                }
            }
            return best;
        }
    }
}
