/**
 * Walkers that shall meet on a ring.
 *
 * Sets of CELLS and of RULES are numbers: bit c tells whether c is in the set.
 */
public final class RingMeets {
    public static final int UNKNOWN = -1, OUTSIDE = -2, STATE = -3, FULL = -4, NONE = -6;

    private static final int LEAST_CELLS = 3, MOST_CELLS = 10, CELLS_AT_FIRST = 8;
    private static final int MOST_WALKERS = 5;
    private static final int MOST_RULES = 10, MOST_PLACES = 5, MOST_NUMBER = 10;
    private static final int IMAGES = 2;

    /** The two sides, numbered as gap(cell, what, i) asks for their GAPS. */
    private static final int UP = 0, DOWN = 1;

    /** The parts of a RULE, in the order in which of(rule, what) tells them. */
    private static final int STANDS = 0, PLACE = 1, HOW = 2, NUMBER = 3, DONE = 4, WHOM = 5, PARTS = 6;
    private static final int LESS = 0, JUST = 1;
    private static final int SINGLE = 0, TOWER = 1, BOTH = 2;
    private static final int WAIT = 0, GO = 1, FLEE = 2;

    private static final int ONE = 0, ALL = 1, ANY = 2;
    private static final int HAVE_MET = 0, ALWAYS = 1, MAYBE = 2, NEVER = 3;

    private final Scene now = new Scene();
    private final Scene firstImage = new Scene();
    private final Scene secondImage = new Scene();
    private final Look look = new Look();
    private final int[] behind = new int[MOST_CELLS];
    private int kept;
    /** Made by the first call that needs it: it is large, and many objects never do. */
    private Walks walks;

    public RingMeets() {
    }

    // ---- 1 the ring

    public int ring(int v) {
        if (v < LEAST_CELLS || v > MOST_CELLS) {
            return OUTSIDE;
        }
        int was = now.cells;
        now.empty(v);
        return was;
    }

    public int stand(int cell, int n) {
        if (!now.hasCell(cell)) {
            return UNKNOWN;
        }
        if (n < 0 || n > MOST_WALKERS) {
            return OUTSIDE;
        }
        int was = now.walkersOn(cell);
        if (now.walkersInAll() - was + n > MOST_WALKERS) {
            return FULL;
        }
        now.put(cell, n);
        return was;
    }

    public int gap(int cell, int what, int i) {
        int stands = now.stands();
        if (!Sets.has(stands, cell)) {
            return UNKNOWN;
        }
        if (what < 0 || what > 2) {
            return OUTSIDE;
        }
        int size = Integer.bitCount(stands);
        if (i == -1) {
            return size;
        }
        if (i < 0 || i >= size) {
            return NONE;
        }
        int row = what == 2 ? Gaps.view(now.cells, stands, cell) : Gaps.row(now.cells, stands, cell, what);
        return Gaps.at(row, size, i);
    }

    public int shape(int what) {
        int cells = now.cells;
        int stands = now.stands();
        switch (what) {
            case 0:
                return Gaps.turned(cells, stands) ? 1 : 0;
            case 1:
                return Gaps.mirrored(cells, stands) ? 1 : 0;
            case 2:
                return stands != 0 && !Gaps.turned(cells, stands) && !Gaps.mirrored(cells, stands) ? 1 : 0;
            case 3:
                return Gaps.evens(cells, stands);
            case 4:
                return Gaps.views(cells, stands);
            case 5:
                return Gaps.leastTurn(cells, stands);
            default:
                return OUTSIDE;
        }
    }

    // ---- 2 rules, steps

    public int rule(int stands, int place, int how, int number, int done) {
        if (stands < 0 || stands > MOST_WALKERS || place < 0 || place >= MOST_PLACES) {
            return OUTSIDE;
        }
        if (how < 0 || how > 2 || number < 1 || number > MOST_NUMBER || done < WAIT || done > FLEE) {
            return OUTSIDE;
        }
        return now.rules.append(stands, place, how, number, done);
    }

    public int whom(int rule, int v) {
        if (!now.rules.has(rule)) {
            return UNKNOWN;
        }
        if (v < SINGLE || v > BOTH) {
            return OUTSIDE;
        }
        int was = now.rules.part(rule, WHOM);
        now.rules.setPart(rule, WHOM, v);
        return was;
    }

    public int drop(int rule) {
        if (!now.rules.has(rule)) {
            return UNKNOWN;
        }
        now.rules.remove(rule);
        return now.rules.size;
    }

    public int of(int rule, int what) {
        if (!now.rules.has(rule)) {
            return UNKNOWN;
        }
        if (what < 0 || what >= PARTS) {
            return OUTSIDE;
        }
        return now.rules.part(rule, what);
    }

    public int does(int cell, int what) {
        int stands = now.stands();
        if (!Sets.has(stands, cell)) {
            return UNKNOWN;
        }
        look.from(now.rules, now.cells, stands, now.towers(), cell);
        switch (what) {
            case 0:
                return look.side == UP ? 1 : 0;
            case 1:
                return look.even ? 1 : 0;
            case 2:
                return look.rule;
            case 3:
                return look.done;
            case 4:
                return look.goal;
            default:
                return OUTSIDE;
        }
    }

    public int step(int set) {
        int stands = now.stands();
        if ((set & ~stands) != 0) {
            return OUTSIDE;
        }
        int towers = now.towers();
        for (int cell = 0; cell < MOST_CELLS; cell++) {
            behind[cell] = 0;
        }
        for (int cell = 0; cell < MOST_CELLS; cell++) {
            int goal = cell;
            if (Sets.has(set, cell)) {
                look.from(now.rules, now.cells, stands, towers, cell);
                goal = look.goal;
            }
            if (goal >= 0 && goal < MOST_CELLS) {
                behind[goal] += now.walkersOn(cell);
            }
        }
        for (int cell = 0; cell < MOST_CELLS; cell++) {
            now.put(cell, behind[cell]);
        }
        return Integer.bitCount(now.stands());
    }

    // ---- 3 meeting

    public int meets(int schedule, int what) {
        if (what < 0 || what > 4) {
            return OUTSIDE;
        }
        int refused = refusalFromNow(schedule);
        if (refused != 0) {
            return refused;
        }
        Walks from = walksFromNow(schedule, false);
        from.walk();
        switch (what) {
            case 0:
                return from.soonOf(0);
            case 1:
                return from.lateOf(0);
            case 2:
                return from.kindOf(0);
            case 3:
                return from.size;
            default:
                return from.stuck;
        }
    }

    public int first(int schedule) {
        int refused = refusalFromNow(schedule);
        if (refused != 0) {
            return refused;
        }
        Walks from = walksFromNow(schedule, false);
        from.walk();
        return from.leastSetTowardsMeeting(0);
    }

    public int blind(int schedule) {
        int refused = refusalFromNow(schedule);
        if (refused != 0) {
            return refused;
        }
        Walks from = walksFromNow(schedule, true);
        from.walk();
        return from.kindOf(0);
    }

    public int used(int schedule) {
        int refused = refusalFromNow(schedule);
        if (refused != 0) {
            return refused;
        }
        Walks from = walksFromNow(schedule, false);
        from.walk();
        return from.rulesUsed;
    }

    public int all(int n, int schedule, int kind) {
        if (n < 1 || n > MOST_WALKERS || n > now.cells) {
            return OUTSIDE;
        }
        if (!isSchedule(schedule) || kind < HAVE_MET || kind > NEVER) {
            return OUTSIDE;
        }
        Walks from = newWalks(schedule, false);
        for (int stands = 1; stands < 1 << now.cells; stands++) {
            if (Integer.bitCount(stands) == n) {
                from.add(Sets.way(stands, 0));
            }
        }
        int starts = from.size;
        from.walk();
        int sum = 0;
        for (int way = 0; way < starts; way++) {
            if (from.kindOf(way) == kind) {
                sum++;
            }
        }
        return sum;
    }

    // ---- 4 images

    public int image(int k) {
        if (k < 0 || k >= IMAGES) {
            return OUTSIDE;
        }
        imageOf(k).copyFrom(now);
        kept |= 1 << k;
        return 1;
    }

    public int restore(int k) {
        if (k < 0 || k >= IMAGES) {
            return OUTSIDE;
        }
        if (!Sets.has(kept, k)) {
            return STATE;
        }
        now.copyFrom(imageOf(k));
        return 1;
    }

    public int count(int what) {
        if (what >= 10 && what < 10 + MOST_CELLS) {
            return now.walkersOn(what - 10);
        }
        switch (what) {
            case 0:
                return now.cells;
            case 1:
                return now.walkersInAll();
            case 2:
                return now.stands();
            case 3:
                return now.towers();
            case 4:
                return now.rules.size;
            case 5:
                return kept;
            default:
                return OUTSIDE;
        }
    }

    private Scene imageOf(int k) {
        return k == 0 ? firstImage : secondImage;
    }

    private static boolean isSchedule(int schedule) {
        return schedule >= ONE && schedule <= ANY;
    }

    /** What a call that looks from now on answers when it is refused; 0: it is not. */
    private int refusalFromNow(int schedule) {
        if (!isSchedule(schedule)) {
            return OUTSIDE;
        }
        return now.stands() == 0 ? STATE : 0;
    }

    private Walks newWalks(int schedule, boolean blindly) {
        if (walks == null) {
            walks = new Walks(now.rules);
        }
        walks.begin(now.cells, schedule, blindly);
        return walks;
    }

    private Walks walksFromNow(int schedule, boolean blindly) {
        Walks from = newWalks(schedule, blindly);
        from.add(Sets.way(now.stands(), now.towers()));
        return from;
    }

    /** Sets of CELLS, and WAYS to stand: STANDS in the low bits, TOWERS among them above. */
    private static final class Sets {
        static boolean has(int set, int member) {
            return member >= 0 && member < MOST_CELLS && (set >> member & 1) != 0;
        }

        static int way(int stands, int towers) {
            return stands | towers << MOST_CELLS;
        }

        static int standsOf(int way) {
            return way & (1 << MOST_CELLS) - 1;
        }

        static int towersOf(int way) {
            return way >> MOST_CELLS;
        }

        static int cellNextTo(int cells, int cell, int side) {
            if (side == UP) {
                return cell + 1 >= cells ? 0 : cell + 1;
            }
            return cell <= 0 ? cells - 1 : cell - 1;
        }

        static int turnedUp(int cells, int set) {
            return (set << 1 | set >> cells - 1) & (1 << cells) - 1;
        }

        static int turnedDown(int cells, int set) {
            return (set >> 1 | set << cells - 1) & (1 << cells) - 1;
        }
    }

    /**
     * A row of GAPS is one number, four bits a GAP, the first GAP on top:
     * so the lesser one of two rows of as many GAPS is the lesser number.
     */
    private static final class Gaps {
        private static final int BITS = 4;

        static int row(int cells, int stands, int cell, int side) {
            int row = 0;
            int wide = 0;
            int at = cell;
            for (int i = 0; i < cells; i++) {
                at = Sets.cellNextTo(cells, at, side);
                wide++;
                if (Sets.has(stands, at)) {
                    row = row << BITS | wide;
                    wide = 0;
                }
            }
            return row;
        }

        static int view(int cells, int stands, int cell) {
            return Math.min(row(cells, stands, cell, UP), row(cells, stands, cell, DOWN));
        }

        static int at(int row, int size, int place) {
            return row >> BITS * (size - 1 - place) & (1 << BITS) - 1;
        }

        static boolean turned(int cells, int stands) {
            for (int a = 0; a < cells; a++) {
                for (int b = 0; b < a; b++) {
                    if (Sets.has(stands, a) && Sets.has(stands, b)
                            && row(cells, stands, a, UP) == row(cells, stands, b, UP)) {
                        return true;
                    }
                }
            }
            return false;
        }

        static boolean mirrored(int cells, int stands) {
            for (int a = 0; a < cells; a++) {
                for (int b = 0; b < cells; b++) {
                    if (Sets.has(stands, a) && Sets.has(stands, b)
                            && row(cells, stands, a, UP) == row(cells, stands, b, DOWN)) {
                        return true;
                    }
                }
            }
            return false;
        }

        static int evens(int cells, int stands) {
            int sum = 0;
            for (int cell = 0; cell < cells; cell++) {
                if (Sets.has(stands, cell) && row(cells, stands, cell, UP) == row(cells, stands, cell, DOWN)) {
                    sum++;
                }
            }
            return sum;
        }

        static int views(int cells, int stands) {
            int sum = 0;
            for (int cell = 0; cell < cells; cell++) {
                if (Sets.has(stands, cell) && !isSeenBelow(cells, stands, cell)) {
                    sum++;
                }
            }
            return sum;
        }

        private static boolean isSeenBelow(int cells, int stands, int cell) {
            int view = view(cells, stands, cell);
            for (int other = 0; other < cell; other++) {
                if (Sets.has(stands, other) && view(cells, stands, other) == view) {
                    return true;
                }
            }
            return false;
        }

        static int leastTurn(int cells, int stands) {
            int turned = stands;
            for (int by = 1; stands != 0 && by <= cells; by++) {
                turned = Sets.turnedUp(cells, turned);
                if (turned == stands) {
                    return by;
                }
            }
            return NONE;
        }
    }

    /** The RULES as they are told, PARTS numbers each, one RULE behind the other. */
    private static final class Rules {
        private final int[] told = new int[MOST_RULES * PARTS];
        private int size;

        boolean has(int rule) {
            return rule >= 0 && rule < size && rule < MOST_RULES;
        }

        int part(int rule, int what) {
            return has(rule) && what >= 0 && what < PARTS ? told[rule * PARTS + what] : 0;
        }

        void setPart(int rule, int what, int v) {
            if (has(rule) && what >= 0 && what < PARTS) {
                told[rule * PARTS + what] = v;
            }
        }

        /** The number of the RULE that is added; FULL, if there is no room. */
        int append(int stands, int place, int how, int number, int done) {
            if (size >= MOST_RULES) {
                return FULL;
            }
            int added = size;
            size++;
            setPart(added, STANDS, stands);
            setPart(added, PLACE, place);
            setPart(added, HOW, how);
            setPart(added, NUMBER, number);
            setPart(added, DONE, done);
            setPart(added, WHOM, BOTH);
            return added;
        }

        void remove(int rule) {
            if (!has(rule)) {
                return;
            }
            for (int i = rule * PARTS; i < (size - 1) * PARTS && i + PARTS < told.length; i++) {
                told[i] = told[i + PARTS];
            }
            size--;
        }

        void copyFrom(Rules other) {
            size = other.size;
            for (int i = 0; i < MOST_RULES * PARTS; i++) {
                told[i] = other.told[i];
            }
        }

        int firstThatFits(int stands, int view, int taken) {
            for (int rule = 0; rule < size && rule < MOST_RULES; rule++) {
                if (fits(rule, stands, view, taken)) {
                    return rule;
                }
            }
            return NONE;
        }

        private boolean fits(int rule, int stands, int view, int taken) {
            int wanted = told[rule * PARTS + STANDS];
            if (wanted != 0 && wanted != stands) {
                return false;
            }
            int whomFor = told[rule * PARTS + WHOM];
            if (whomFor != BOTH && whomFor != taken) {
                return false;
            }
            int place = told[rule * PARTS + PLACE];
            if (place >= stands) {
                return false;
            }
            return isSo(Gaps.at(view, stands, place), told[rule * PARTS + HOW], told[rule * PARTS + NUMBER]);
        }

        private static boolean isSo(int seen, int how, int number) {
            if (how == LESS) {
                return seen < number;
            }
            return how == JUST ? seen == number : seen > number;
        }
    }

    /** All that an IMAGE keeps. */
    private static final class Scene {
        private final int[] walkers = new int[MOST_CELLS];
        private final Rules rules = new Rules();
        private int cells = CELLS_AT_FIRST;

        boolean hasCell(int cell) {
            return cell >= 0 && cell < cells && cell < MOST_CELLS;
        }

        int walkersOn(int cell) {
            return hasCell(cell) ? walkers[cell] : 0;
        }

        void put(int cell, int n) {
            if (hasCell(cell)) {
                walkers[cell] = n;
            }
        }

        void empty(int cellsNow) {
            cells = cellsNow;
            for (int cell = 0; cell < MOST_CELLS; cell++) {
                walkers[cell] = 0;
            }
        }

        int walkersInAll() {
            int sum = 0;
            for (int cell = 0; cell < cells; cell++) {
                sum += walkersOn(cell);
            }
            return sum;
        }

        int stands() {
            return cellsWithAtLeast(1);
        }

        int towers() {
            return cellsWithAtLeast(2);
        }

        private int cellsWithAtLeast(int n) {
            int set = 0;
            for (int cell = 0; cell < cells; cell++) {
                if (walkersOn(cell) >= n) {
                    set |= 1 << cell;
                }
            }
            return set;
        }

        void copyFrom(Scene other) {
            cells = other.cells;
            for (int cell = 0; cell < MOST_CELLS; cell++) {
                walkers[cell] = other.walkers[cell];
            }
            rules.copyFrom(other.rules);
        }
    }

    /** What one STAND sees and does. */
    private static final class Look {
        private int side, rule, done, goal;
        private boolean even;

        /** TOWERS are those that are taken for such: none, if all are blind. */
        void from(Rules rules, int cells, int stands, int towers, int cell) {
            int up = Gaps.row(cells, stands, cell, UP);
            int down = Gaps.row(cells, stands, cell, DOWN);
            even = up == down;
            side = up <= down ? UP : DOWN;
            int taken = Sets.has(towers, cell) ? TOWER : SINGLE;
            rule = rules.firstThatFits(Integer.bitCount(stands), Math.min(up, down), taken);
            done = rules.has(rule) ? rules.part(rule, DONE) : WAIT;
            goal = goalFrom(cells, cell);
        }

        private int goalFrom(int cells, int cell) {
            if (done == WAIT) {
                return cell;
            }
            return Sets.cellNextTo(cells, cell, sideOfMove());
        }

        int sideOfMove() {
            if (done == GO) {
                return side;
            }
            return side == UP ? DOWN : UP;
        }
    }

    /** What all STANDS of one WAY to stand do, as sets. */
    private static final class Moves {
        private final Look look = new Look();
        private int ups, downs, rulesUsed;

        void from(Rules rules, int cells, int stands, int towers) {
            ups = 0;
            downs = 0;
            rulesUsed = 0;
            for (int cell = 0; cell < cells; cell++) {
                if (Sets.has(stands, cell)) {
                    look.from(rules, cells, stands, towers, cell);
                    enter(cell);
                }
            }
        }

        private void enter(int cell) {
            if (look.rule >= 0) {
                rulesUsed |= 1 << look.rule;
            }
            if (look.done == WAIT) {
                return;
            }
            if (look.sideOfMove() == UP) {
                ups |= 1 << cell;
            } else {
                downs |= 1 << cell;
            }
        }

        int movers() {
            return ups | downs;
        }

        int wayBehind(int cells, int way, int set) {
            int stands = Sets.standsOf(way);
            int towers = Sets.towersOf(way);
            int waiting = stands & ~(set & movers());
            int fromBelow = Sets.turnedUp(cells, stands & set & ups);
            int fromAbove = Sets.turnedDown(cells, stands & set & downs);
            int towersBehind = towers & waiting
                    | Sets.turnedUp(cells, towers & set & ups)
                    | Sets.turnedDown(cells, towers & set & downs)
                    | waiting & fromBelow | waiting & fromAbove | fromBelow & fromAbove;
            return Sets.way(waiting | fromBelow | fromAbove, towersBehind);
        }
    }

    /**
     * The WAYS to stand that can come from some first ones by a SCHEDULE, and the STEPS between them.
     * SOON and LATE are found from the WAYS that have MET backwards, against the STEPS.
     */
    private static final class Walks {
        /**
         * Five WALKERS on ten CELLS stand in the most WAYS: 252 of five STANDS, 210 * 4 of four,
         * 120 * 6 of three, 45 * 3 of two, 10 of one; ANY has 31, 15, 7, 3, 0 STEPS of each of these.
         */
        private static final int MOST_WAYS = 1957, MOST_STEPS = 25857;
        private static final int MOST_SETS = 31;

        private final Moves moves = new Moves();
        private final int[] ways = new int[MOST_WAYS];
        /** The WAYS with the same STANDS are a chain, from the newest one to older ones; -1 ends it. */
        private final int[] newest = new int[1 << MOST_CELLS];
        private final int[] older = new int[MOST_WAYS];
        /** The STEPS to the same WAY are a chain, from the last one to earlier ones; -1 ends it. */
        private final int[] lastStepTo = new int[MOST_WAYS];
        private final int[] earlierStep = new int[MOST_STEPS];
        private final int[] stepFrom = new int[MOST_STEPS];
        private final int[] stepsLeft = new int[MOST_WAYS];
        private final int[] soon = new int[MOST_WAYS];
        private final int[] late = new int[MOST_WAYS];
        private final int[] line = new int[MOST_WAYS];
        private final Rules rules;
        private int cells, schedule, size, steps, lineSize, stuck, rulesUsed;
        private boolean blindly;

        Walks(Rules rulesForAll) {
            rules = rulesForAll;
        }

        void begin(int cellsNow, int scheduleNow, boolean blindlyNow) {
            cells = cellsNow;
            schedule = scheduleNow;
            blindly = blindlyNow;
            size = 0;
            steps = 0;
            stuck = 0;
            rulesUsed = 0;
            for (int stands = 0; stands < 1 << MOST_CELLS; stands++) {
                newest[stands] = -1;
            }
        }

        /** The place of a WAY, which is added, if it is new; -1, if there is no room. */
        int add(int way) {
            int known = find(way);
            if (known >= 0 || size >= MOST_WAYS) {
                return known;
            }
            int added = size;
            int stands = Sets.standsOf(way);
            size++;
            ways[added] = way;
            older[added] = newest[stands];
            newest[stands] = added;
            lastStepTo[added] = -1;
            stepsLeft[added] = 0;
            return added;
        }

        private int find(int way) {
            int at = newest[Sets.standsOf(way)];
            for (int i = 0; i < size && isWay(at); i++) {
                if (ways[at] == way) {
                    return at;
                }
                at = older[at];
            }
            return -1;
        }

        private boolean isWay(int at) {
            return at >= 0 && at < size && at < MOST_WAYS;
        }

        private boolean hasMet(int at) {
            return isWay(at) && Integer.bitCount(Sets.standsOf(ways[at])) == 1;
        }

        void walk() {
            for (int at = 0; at < size && at < MOST_WAYS; at++) {
                if (!hasMet(at)) {
                    moves.from(rules, cells, Sets.standsOf(ways[at]), towersSeen(ways[at]));
                    addStepsFrom(at);
                }
            }
            tellBackwards(soon, false);
            tellBackwards(late, true);
        }

        private int towersSeen(int way) {
            return blindly ? 0 : Sets.towersOf(way);
        }

        private void addStepsFrom(int at) {
            rulesUsed |= moves.rulesUsed;
            if (moves.movers() == 0) {
                stuck++;
            }
            int set = setAfter(0);
            for (int i = 0; i < MOST_SETS && set != 0; i++) {
                addStep(at, add(moves.wayBehind(cells, ways[at], set)));
                set = setAfter(set);
            }
        }

        /** The next greater set of MOVERS of which a STEP may be, behind 0 the least one; 0: there is none. */
        private int setAfter(int set) {
            int movers = moves.movers();
            if (schedule == ANY) {
                return set - movers & movers;
            }
            if (schedule == ALL) {
                return set == 0 ? movers : 0;
            }
            return Integer.lowestOneBit(set == 0 ? movers : movers & -(set << 1));
        }

        private void addStep(int from, int to) {
            if (!isWay(from) || !isWay(to) || steps >= MOST_STEPS) {
                return;
            }
            stepFrom[steps] = from;
            earlierStep[steps] = lastStepTo[to];
            lastStepTo[to] = steps;
            stepsLeft[from]++;
            steps++;
        }

        /**
         * A WAY's SOON is told by the first one of the WAYS behind it that is told, its LATE by the
         * last one: the line is in the order of what is told, so the last one is the latest.
         */
        private void tellBackwards(int[] told, boolean byLast) {
            lineUpWhatHasMet(told);
            for (int i = 0; i < lineSize && i < MOST_WAYS; i++) {
                int to = line[i];
                int step = isWay(to) ? lastStepTo[to] : -1;
                for (int turn = 0; turn < steps && isStep(step); turn++) {
                    int from = stepFrom[step];
                    if (byLast ? isLastStepOf(from) : isWay(from) && told[from] == NONE) {
                        lineUp(told, from, told[to] + 1);
                    }
                    step = earlierStep[step];
                }
            }
        }

        private boolean isLastStepOf(int from) {
            if (!isWay(from)) {
                return false;
            }
            stepsLeft[from]--;
            return stepsLeft[from] == 0;
        }

        private boolean isStep(int step) {
            return step >= 0 && step < steps && step < MOST_STEPS;
        }

        private void lineUpWhatHasMet(int[] told) {
            lineSize = 0;
            for (int at = 0; at < size && at < MOST_WAYS; at++) {
                told[at] = NONE;
                if (hasMet(at)) {
                    lineUp(told, at, 0);
                }
            }
        }

        private void lineUp(int[] told, int at, int v) {
            if (isWay(at) && lineSize < MOST_WAYS) {
                told[at] = v;
                line[lineSize] = at;
                lineSize++;
            }
        }

        int soonOf(int at) {
            return isWay(at) ? soon[at] : NONE;
        }

        int lateOf(int at) {
            return isWay(at) ? late[at] : NONE;
        }

        int kindOf(int at) {
            if (hasMet(at)) {
                return HAVE_MET;
            }
            if (lateOf(at) != NONE) {
                return ALWAYS;
            }
            return soonOf(at) != NONE ? MAYBE : NEVER;
        }

        int leastSetTowardsMeeting(int at) {
            int left = soonOf(at);
            if (!isWay(at) || left == NONE || left == 0) {
                return NONE;
            }
            moves.from(rules, cells, Sets.standsOf(ways[at]), towersSeen(ways[at]));
            int set = setAfter(0);
            for (int i = 0; i < MOST_SETS && set != 0; i++) {
                if (soonOf(find(moves.wayBehind(cells, ways[at], set))) == left - 1) {
                    return set;
                }
                set = setAfter(set);
            }
            return NONE;
        }
    }
}
