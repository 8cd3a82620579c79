import java.util.Arrays;

/** The emptying of a ground, as ../shared/DOC.md tells it; README.md says how to use it. */
public final class CrowdOut {

    private static final int NOBODY = -1;
    private static final int OTHER = -2;
    private static final int STATE = -3;
    private static final int BELOW = -4;
    private static final int FULL = -6;
    private static final int NONE = -9;
    private static final int FAULTY = -20;

    private static final int MOST_TICKS = 999;
    private static final int MOST_AREAS = 20;
    private static final int MOST_LINKS = 30;
    private static final int MOST_FOLK = 24;
    private static final int MOST_TRAINS = 8;
    private static final int MOST_ORDERS = 12;
    private static final int MOST_GIVEN = 200;
    private static final int MOST_BYTES = 120;
    private static final int MOST_TELLINGS = 60;
    private static final int MOST_OPTIONS = 4;
    private static final int MOST_EMPTYING = 300;
    private static final int MOST_BLOCKED = 6;

    private static final int GOAL = 3;
    private static final int KIN = 1;
    private static final int WHEELS = 2;

    /** What a link can be set to, by the numbers of linkSet(). */
    private static final int OPEN = 0;
    private static final int WAY = 1;
    private static final int STEPS = 2;
    private static final int HEARS = 3;
    private static final int WIDE = 4;
    private static final int[] LINK_LEAST = {0, 0, 0, 0, 1};
    private static final int[] LINK_MOST = {1, 2, 1, 20, 999};

    /** What set() sets, by its numbers. */
    private static final int PACE = 0;
    private static final int TIGHT = 1;
    private static final int LONG = 2;
    private static final int[] RULE_LEAST = {100, 10, 0};
    private static final int[] RULE_MOST = {300, 300, 50};
    private static final int[] RULE_FIRST = {150, 100, 5};

    private static final int ACT_OPEN = 1;
    private static final int ACT_SHUT = 2;
    private static final int ACT_HOLD = 3;
    private static final int ACT_GO = 4;
    private static final int ACT_TURN = 5;

    /** The options as bits, the fewest first, of as many the least: the order in which the design is sought. */
    private static final int[] CHOICES = {0, 1, 2, 4, 8, 3, 5, 6, 9, 10, 12, 7, 11, 13, 14, 15};

    private final World world = new World();
    /** The ground on which an emptying is tried, so that the world itself does not change. */
    private final World trial = new World();
    private final Reader reader = new Reader();
    private final Tellings tellings = new Tellings();
    private final int[] refusals = new int[7];
    private final int[] optionLink = new int[MOST_OPTIONS];
    private final int[] optionWhat = new int[MOST_OPTIONS];
    private final int[] optionValue = new int[MOST_OPTIONS];
    private int options;

    /** Goes up with every change, so that answers of emptyings of the same state are not sought again. */
    private int stamp = 1;
    private final int[] emptied = new int[4 * (MOST_LINKS + 1)];
    private final int[] emptiedStamp = new int[MOST_LINKS + 1];

    private int designStamp;
    private int designTicks;
    private int designPress;
    private int designBits;
    private int designWorstTicks;
    private int designWorstPress;

    public CrowdOut() {
    }

    public int area(int kind, int room) {
        if (kind < 0 || kind > GOAL) {
            return refuse(OTHER);
        }
        if (room < 1) {
            return refuse(BELOW);
        }
        if (room > 20000 || world.areaCount >= MOST_AREAS) {
            return refuse(FULL);
        }
        stamp++;
        world.areas[world.areaCount] = new Area(kind, room);
        world.ways.forget();
        return world.areaCount++;
    }

    public int link(int a, int b, int wide, int far) {
        if (!world.isArea(a) || !world.isArea(b) || a == b) {
            return refuse(NOBODY);
        }
        if (wide < LINK_LEAST[WIDE] || far < 1) {
            return refuse(BELOW);
        }
        if (wide > LINK_MOST[WIDE] || far > 9 || world.linkCount >= MOST_LINKS) {
            return refuse(FULL);
        }
        stamp++;
        Link made = new Link(a, b, far);
        made.setting[OPEN] = 1;
        made.setting[WIDE] = wide;
        world.links[world.linkCount] = made;
        world.ways.forget();
        return world.linkCount++;
    }

    public int linkSet(int link, int what, int v) {
        int refusal = linkRefusal(link, what, v);
        if (refusal < 0) {
            return refuse(refusal);
        }
        stamp++;
        int was = world.links[link].setting[what];
        world.change(link, what, v);
        return was;
    }

    public int folk(int area, int heads, int goal, int kind) {
        if (!world.isArea(area) || !world.isGoal(goal)) {
            return refuse(NOBODY);
        }
        if (kind < 0 || kind > WHEELS) {
            return refuse(OTHER);
        }
        if (area == goal) {
            return refuse(STATE);
        }
        if (heads < 1) {
            return refuse(BELOW);
        }
        Area home = world.areas[area];
        if (heads > 9999 || world.folkCount >= MOST_FOLK || heads > home.room - home.heads) {
            return refuse(FULL);
        }
        stamp++;
        Folk made = new Folk(area, heads, goal, kind);
        made.in[area] = heads;
        made.inAreas = heads;
        world.folks[world.folkCount] = made;
        world.shift(area, heads);
        return world.folkCount++;
    }

    public int train(int area, int first, int every, int takes) {
        if (!world.isGoal(area)) {
            return refuse(NOBODY);
        }
        if (first < world.tick || every < 1 || takes < 1) {
            return refuse(BELOW);
        }
        if (first > MOST_TICKS || every > 200 || takes > 9999 || world.trainCount >= MOST_TRAINS) {
            return refuse(FULL);
        }
        stamp++;
        world.trains[world.trainCount] = new Train(area, first, every, takes);
        return world.trainCount++;
    }

    public int hold(int train, boolean on) {
        if (!world.isTrain(train)) {
            return refuse(NOBODY);
        }
        Train held = world.trains[train];
        if (held.held == on) {
            return 0;
        }
        stamp++;
        held.held = on;
        return 1;
    }

    public int set(int what, int v) {
        if (what < PACE || what > LONG) {
            return refuse(OTHER);
        }
        if (v < RULE_LEAST[what]) {
            return refuse(BELOW);
        }
        if (v > RULE_MOST[what]) {
            return refuse(FULL);
        }
        stamp++;
        int was = world.rule[what];
        world.rule[what] = v;
        world.seeAllTight();
        return was;
    }

    public int ticks(int n) {
        if (n < 1) {
            return refuse(BELOW);
        }
        if (n > MOST_TICKS - world.tick) {
            return refuse(FULL);
        }
        stamp++;
        int before = world.allOut();
        for (int i = 0; i < n; i++) {
            world.pass();
            for (int l = 0; l < world.linkCount; l++) {
                world.links[l].note(world.tick);
            }
        }
        return world.allOut() - before;
    }

    public int areaOf(int area, int what) {
        if (!world.isArea(area)) {
            return refuse(NOBODY);
        }
        Area asked = world.areas[area];
        switch (what) {
            case 0: return asked.kind;
            case 1: return asked.room;
            case 2: return asked.heads;
            case 3: return asked.press();
            case 4: return asked.push;
            case 5: return asked.fell;
            case 6: return asked.peak;
            case 7: return asked.firstFell;
            default: return refuse(OTHER);
        }
    }

    public int folkOf(int folk, int what, int i) {
        if (!world.isFolk(folk)
                || what == 0 && !world.isArea(i)
                || what == 1 && !world.isLink(i)) {
            return refuse(NOBODY);
        }
        Folk asked = world.folks[folk];
        switch (what) {
            case 0: return asked.in[i];
            case 1: return world.links[i].headsOf(folk);
            case 2: return asked.outs;
            case 3: return asked.goal;
            case 4: return asked.outs == asked.heads ? asked.lastOut : NONE;
            default: return refuse(OTHER);
        }
    }

    public int next(int area, int goal, boolean wheels) {
        if (!world.isArea(area) || !world.isGoal(goal)) {
            return refuse(NOBODY);
        }
        return world.ways.first[world.ways.rowTo(world, goal, wheels) + area];
    }

    public int walk(int area, int goal, boolean wheels) {
        if (!world.isArea(area) || !world.isGoal(goal)) {
            return refuse(NOBODY);
        }
        return world.ways.time[world.ways.rowTo(world, goal, wheels) + area];
    }

    public int feed(int n, long bytes) {
        if (n < 1) {
            return refuse(BELOW);
        }
        if (n > 8 || n > MOST_BYTES - reader.length) {
            return refuse(FULL);
        }
        for (int i = 0; i < n; i++) {
            reader.keep((int) (bytes >>> (8 * i)) & 255);
        }
        return reader.length;
    }

    public int order(int state) {
        if (state != 0 && state != 1) {
            return refuse(OTHER);
        }
        if (world.orderCount >= MOST_ORDERS) {
            return refuse(FULL);
        }
        reader.begin();
        reader.readOrs(0);
        reader.readActs();
        int fault = reader.fault;
        reader.length = 0;
        if (fault >= 0) {
            return FAULTY - fault;
        }
        stamp++;
        world.orders[world.orderCount] = new Order(reader.writtenTests(), reader.writtenActs(), state == 1);
        return world.orderCount++;
    }

    public int stand(int order, boolean on) {
        if (!world.isOrder(order)) {
            return refuse(NOBODY);
        }
        Order asked = world.orders[order];
        if (asked.stands == on) {
            return 0;
        }
        stamp++;
        asked.stands = on;
        return 1;
    }

    public int holds(int order) {
        if (!world.isOrder(order)) {
            return refuse(NOBODY);
        }
        return world.isTrue(world.orders[order]) ? 1 : 0;
    }

    public int given(int i, int what) {
        if (what < 0 || what > 4) {
            return refuse(OTHER);
        }
        Given list = world.given;
        if (i < 0 || i >= list.length) {
            return NONE;
        }
        switch (what) {
            case 0: return list.order[i];
            case 1: return list.tick[i];
            case 2: return list.act[i];
            case 3: return list.number[i];
            default: return list.heard[i];
        }
    }

    public int counted(int link, int tick, int heads) {
        if (!world.isLink(link)) {
            return refuse(NOBODY);
        }
        if (tick > world.tick) {
            return refuse(STATE);
        }
        if (tick < 0 || heads < 0) {
            return refuse(BELOW);
        }
        if (heads > 99999 || tellings.length >= MOST_TELLINGS) {
            return refuse(FULL);
        }
        tellings.add(link, tick, heads, world.tick);
        return tellings.length;
    }

    public int count(int link, int tick, int k) {
        if (!world.isLink(link)) {
            return refuse(NOBODY);
        }
        if (tick < 0 || k < 0) {
            return refuse(BELOW);
        }
        if (tick > MOST_TICKS || k > MOST_TICKS) {
            return refuse(FULL);
        }
        int latest = tellings.latest(link, tick, k);
        return latest < 0 ? NONE : tellings.heads[latest];
    }

    public int wrong(int link, int k) {
        if (!world.isLink(link)) {
            return refuse(NOBODY);
        }
        if (k < 0) {
            return refuse(BELOW);
        }
        if (k > MOST_TICKS) {
            return refuse(FULL);
        }
        return tellings.off(link, k, world.links[link]);
    }

    public int out(int block, int what) {
        if (block != -1 && !world.isLink(block)) {
            return refuse(NOBODY);
        }
        if (what < 0 || what > 3) {
            return refuse(OTHER);
        }
        return emptiedRow(block, what);
    }

    public int worst(int what) {
        if (what < 0 || what > 2) {
            return refuse(OTHER);
        }
        int worst = NONE;
        int most = -1;
        int press = -1;
        for (int l = 0; l < world.linkCount; l++) {
            int ended = emptiedRow(l, 0);
            int lasts = ended == NONE ? MOST_EMPTYING + 1 : ended;
            int presses = emptiedRow(l, 1);
            if (lasts > most || lasts == most && presses > press) {
                worst = l;
                most = lasts;
                press = presses;
            }
        }
        if (worst == NONE || what == 0) {
            return worst;
        }
        return emptiedRow(worst, what - 1);
    }

    public int option(int link, int what, int v) {
        int refusal = linkRefusal(link, what, v);
        if (refusal < 0) {
            return refuse(refusal);
        }
        if (options >= MOST_OPTIONS) {
            return refuse(FULL);
        }
        stamp++;
        optionLink[options] = link;
        optionWhat[options] = what;
        optionValue[options] = v;
        return options++;
    }

    public int design(int ticks, int press, int what) {
        if (what < 0 || what > 3) {
            return refuse(OTHER);
        }
        if (ticks < 1 || press < 1) {
            return refuse(BELOW);
        }
        if (ticks > MOST_EMPTYING || press > 999) {
            return refuse(FULL);
        }
        if (designStamp != stamp || designTicks != ticks || designPress != press) {
            designStamp = stamp;
            designTicks = ticks;
            designPress = press;
            designBits = NONE;
            for (int i = 0; i < CHOICES.length && designBits == NONE; i++) {
                if (CHOICES[i] < 1 << options && isEnough(CHOICES[i], ticks, press)) {
                    designBits = CHOICES[i];
                }
            }
        }
        if (designBits == NONE || what == 0) {
            return designBits;
        }
        if (what == 1) {
            return Integer.bitCount(designBits);
        }
        return what == 2 ? designWorstTicks : designWorstPress;
    }

    public int kin(int folk) {
        if (!world.isFolk(folk)) {
            return refuse(NOBODY);
        }
        int places = 0;
        for (int a = 0; a < world.areaCount; a++) {
            places += world.folks[folk].in[a] > 0 ? 1 : 0;
        }
        for (int l = 0; l < world.linkCount; l++) {
            places += world.links[l].headsOf(folk) > 0 ? 1 : 0;
        }
        return places;
    }

    public int total(int what) {
        if (what >= 11 && what <= 16) {
            return refusals[what - 10];
        }
        switch (what) {
            case 0: return world.tick;
            case 1: return world.areaCount;
            case 2: return world.linkCount;
            case 3: return world.folkCount;
            case 4: return world.allInside();
            case 5: return world.allOut();
            case 6: return world.allFell();
            case 7: return world.trainCount;
            case 8: return world.allTaken();
            case 9: return world.ordersThatStand();
            case 10: return world.given.length;
            case 17: return reader.length;
            default: return NONE;
        }
    }

    private int refuse(int number) {
        int kind = -number;
        if (kind > 0 && kind < refusals.length) {
            refusals[kind]++;
        }
        return number;
    }

    /** The refusal that linkSet() and option() share; 0 if there is none. */
    private int linkRefusal(int link, int what, int v) {
        if (!world.isLink(link)) {
            return NOBODY;
        }
        if (what < OPEN || what > WIDE) {
            return OTHER;
        }
        if (v < LINK_LEAST[what]) {
            return BELOW;
        }
        return v > LINK_MOST[what] ? FULL : 0;
    }

    private int emptiedRow(int block, int what) {
        int row = 4 * (block + 1);
        if (emptiedStamp[block + 1] != stamp) {
            emptiedStamp[block + 1] = stamp;
            trial.copyFrom(world);
            trial.block = block;
            int ended = trial.empty(MOST_EMPTYING, Integer.MAX_VALUE);
            emptied[row] = ended;
            emptied[row + 1] = Math.max(0, trial.topPress);
            emptied[row + 2] = trial.topArea;
            emptied[row + 3] = trial.allFell() - world.allFell();
        }
        return emptied[row + what];
    }

    /** Whether the ground with these options empties in time, whichever of the first links is blocked. */
    private boolean isEnough(int bits, int ticks, int press) {
        designWorstTicks = 0;
        designWorstPress = 0;
        int blocks = Math.min(MOST_BLOCKED, world.linkCount);
        for (int block = -1; block < blocks; block++) {
            trial.copyFrom(world);
            trial.block = block;
            for (int i = 0; i < options; i++) {
                if ((bits >> i & 1) == 1) {
                    trial.change(optionLink[i], optionWhat[i], optionValue[i]);
                }
            }
            int ended = trial.empty(ticks, press);
            if (ended == NONE || trial.topPress > press) {
                return false;
            }
            designWorstTicks = Math.max(designWorstTicks, ended);
            designWorstPress = Math.max(designWorstPress, trial.topPress);
        }
        return true;
    }

    private static final class Area {
        final int kind;
        final int room;
        int heads;
        /** Heads on the way to it, who have their room in it already. */
        int coming;
        int waits;
        int push;
        int fell;
        int peak;
        int firstFell = NONE;
        /** Kept here, as the ways need it far oftener than it changes. */
        boolean tight;

        Area(int kind, int room) {
            this.kind = kind;
            this.room = Math.max(1, room);
        }

        /** A trial is not asked for the peak and the first fall, so they stay behind. */
        void copyFrom(Area other) {
            heads = other.heads;
            coming = other.coming;
            waits = other.waits;
            push = other.push;
            fell = other.fell;
            tight = other.tight;
        }

        int press() {
            return kind == GOAL ? 0 : 100 * heads / room;
        }

        /** Answers whether the area became tight, or is so no more. */
        boolean seeTight(int bound) {
            boolean now = kind != GOAL && 100 * heads / room >= bound;
            boolean turned = now != tight;
            tight = now;
            return turned;
        }

        int roomLeft(int pace) {
            return kind == GOAL ? Integer.MAX_VALUE : room * pace / 100 - heads - coming;
        }

        /** PUSH and FELL as a tick ends. */
        void fall(int press, int tick) {
            push = press >= 120 ? push + 1 : 0;
            peak = Math.max(peak, press);
            if (push >= 3) {
                int more = Math.max(0, Math.min((press - 110) / 10, heads - fell));
                if (more > 0 && fell == 0) {
                    firstFell = tick;
                }
                fell += more;
            }
        }
    }

    private static final class Link {
        final int a;
        final int b;
        final int far;
        final int[] setting = new int[5];
        int went;
        /**
         * Heads on the way, by direction, by the tick of their coming (its rest by FAR is enough: who comes
         * is taken off ahead of those that go in the same tick), and by folk.
         */
        final int[] way;
        /** The same of all folk together, so that an empty row is passed over. */
        final int[] wayAll;
        /** What went on each tick; made when somebody first goes, as a trial's and an empty link need none. */
        private int[] history = new int[0];

        Link(int a, int b, int far) {
            this.a = a;
            this.b = b;
            this.far = Math.max(1, Math.min(9, far));
            this.way = new int[2 * this.far * MOST_FOLK];
            this.wayAll = new int[2 * this.far];
        }

        /** What went is of a tick alone, and the first tick of a trial begins it anew. */
        void copyFrom(Link other) {
            System.arraycopy(other.setting, 0, setting, 0, setting.length);
            if (other.far == far) {
                System.arraycopy(other.way, 0, way, 0, way.length);
                System.arraycopy(other.wayAll, 0, wayAll, 0, wayAll.length);
            }
        }

        /** The row of those who go, or come, on a tick; direction 0 is from a to b. */
        int rowOf(int direction, int tick) {
            return direction * far + tick % far;
        }

        void note(int tick) {
            if (went > 0 && history.length == 0) {
                history = new int[MOST_TICKS + 1];
            }
            if (tick >= 0 && tick < history.length) {
                history[tick] = went;
            }
        }

        int wentOn(int tick) {
            return tick >= 0 && tick < history.length ? history[tick] : 0;
        }

        int headsOf(int folk) {
            int heads = 0;
            for (int row = 0; row < wayAll.length; row++) {
                heads += way[row * MOST_FOLK + folk];
            }
            return heads;
        }
    }

    private static final class Folk {
        final int home;
        final int heads;
        final int goal;
        final int kind;
        boolean turned;
        final int[] in = new int[MOST_AREAS];
        /** Of these, who came in this tick and does not go on in it. */
        final int[] came = new int[MOST_AREAS];
        int inAreas;
        int outs;
        int lastOut = NONE;

        Folk(int home, int heads, int goal, int kind) {
            this.home = home;
            this.heads = heads;
            this.goal = goal;
            this.kind = kind;
        }

        /** Between two ticks nobody just came, so there is nothing to copy of that. */
        void copyFrom(Folk other) {
            turned = other.turned;
            System.arraycopy(other.in, 0, in, 0, in.length);
            inAreas = other.inAreas;
            outs = other.outs;
        }

        int target() {
            return turned ? home : goal;
        }

        boolean isWhereItShould() {
            return outs + (turned ? in[home] : 0) == heads;
        }
    }

    private static final class Train {
        final int area;
        final int first;
        final int every;
        final int takes;
        int taken;
        boolean held;

        Train(int area, int first, int every, int takes) {
            this.area = area;
            this.first = first;
            this.every = Math.max(1, every);
            this.takes = takes;
        }

        boolean comesOn(int tick) {
            return !held && tick >= first && (tick - first) % every == 0;
        }
    }

    /** What was given, in its order. */
    private static final class Given {
        final int[] order = new int[MOST_GIVEN];
        final int[] tick = new int[MOST_GIVEN];
        final int[] act = new int[MOST_GIVEN];
        final int[] number = new int[MOST_GIVEN];
        final int[] heard = new int[MOST_GIVEN];
        int length;
        /** All ahead of this one have been heard. */
        int firstUnheard;

        /** Only what is still to be heard: a trial is not asked who gave it, or when. */
        void copyFrom(Given other) {
            System.arraycopy(other.act, 0, act, 0, other.length);
            System.arraycopy(other.number, 0, number, 0, other.length);
            System.arraycopy(other.heard, 0, heard, 0, other.length);
            length = other.length;
            firstUnheard = other.firstUnheard;
        }

        void passOverHeard(int now) {
            for (int i = firstUnheard; i < length && heard[i] <= now; i++) {
                firstUnheard = i + 1;
            }
        }
    }

    /** The least times and first links of the ways to one area at a time, kept until something on them changes. */
    private static final class Ways {
        final int[] time = new int[2 * MOST_AREAS * MOST_AREAS];
        final int[] first = new int[2 * MOST_AREAS * MOST_AREAS];
        final int[] filled = new int[2 * MOST_AREAS];
        int filling = 1;

        void forget() {
            filling++;
        }

        /** The place in time[] and first[] where the ways to the target stand, by the areas where they begin. */
        int rowTo(World w, int target, boolean wheels) {
            int key = wheels ? MOST_AREAS + target : target;
            int row = key * MOST_AREAS;
            if (filled[key] != filling) {
                filled[key] = filling;
                Arrays.fill(time, row, row + MOST_AREAS, NONE);
                Arrays.fill(first, row, row + MOST_AREAS, NONE);
                time[row + target] = 0;
                boolean better = true;
                for (int round = 0; round < MOST_AREAS && better; round++) {
                    better = shorten(w, row, wheels);
                }
            }
            return row;
        }

        /**
         * One round over all links each way. In the last round, in which no time gets better, every first link
         * has been set against all others that take as long, so that the least number stays.
         */
        private boolean shorten(World w, int row, boolean wheels) {
            boolean better = false;
            for (int arc = 0; arc < 2 * w.linkCount; arc++) {
                int l = arc / 2;
                Link link = w.links[l];
                int from = row + (arc % 2 == 0 ? link.a : link.b);
                int to = arc % 2 == 0 ? link.b : link.a;
                int only = link.setting[WAY];
                if (time[row + to] == NONE || l == w.block || link.setting[OPEN] == 0
                        || only != 0 && only != 1 + arc % 2
                        || wheels && link.setting[STEPS] == 1) {
                    continue;
                }
                int takes = time[row + to] + link.far + (w.areas[to].tight ? w.rule[LONG] : 0);
                if (time[from] == NONE || takes < time[from]) {
                    time[from] = takes;
                    first[from] = l;
                    better = true;
                } else if (takes == time[from] && l < first[from]) {
                    first[from] = l;
                }
            }
            return better;
        }
    }

    /** An order's tests, the operands ahead of what joins them, and its acts, each with its number behind it. */
    private static final class Order {
        final int[] tests;
        final int[] acts;
        boolean stands;

        Order(int[] tests, int[] acts, boolean stands) {
            this.tests = tests;
            this.acts = acts;
            this.stands = stands;
        }
    }

    /** The tape, and how an order is read from it. */
    private static final class Reader {
        static final int NUMBER = 0;
        static final int TICK = 1;
        static final int PRESS = 2;
        static final int HEADS = 3;
        static final int PUSH = 4;
        static final int WENT = 5;
        static final int WAITS = 6;
        static final int PLUS = 7;
        static final int MINUS = 8;
        static final int LESS = 9;
        static final int EQUAL = 10;
        static final int MORE = 11;
        static final int NOT = 12;
        static final int AND = 13;
        static final int OR = 14;
        /** A number of five digits fits below a code's kind. */
        static final int KIND_SHIFT = 17;
        static final int NUMBER_MASK = (1 << KIND_SHIFT) - 1;
        static final int MOST_DEEP = 4;
        static final int END = -1;

        final int[] tape = new int[MOST_BYTES];
        int length;
        int fault;
        private int at;
        /** The byte that is to be read; END behind the last one and behind a fault, so that nothing fits any more. */
        private int sign;
        private final int[] tests = new int[MOST_BYTES];
        private int testCount;
        private final int[] acts = new int[MOST_BYTES];
        private int actCount;

        void keep(int b) {
            if (length < MOST_BYTES) {
                tape[length] = b;
                length++;
            }
        }

        void begin() {
            at = 0;
            fault = -1;
            testCount = 0;
            actCount = 0;
            sign = length > 0 ? tape[0] : END;
        }

        int[] writtenTests() {
            return Arrays.copyOf(tests, testCount);
        }

        int[] writtenActs() {
            return Arrays.copyOf(acts, actCount);
        }

        private void readOrs(int deep) {
            readAnds(deep);
            for (int i = 0; i < MOST_BYTES && sign == '|'; i++) {
                step();
                readAnds(deep);
                put(OR, 0);
            }
        }

        void readActs() {
            stepOver(':');
            readAct();
            for (int i = 0; i < MOST_BYTES && sign == ';'; i++) {
                step();
                readAct();
            }
            if (sign != END) {
                fail();
            }
        }

        private void readAnds(int deep) {
            readTest(deep);
            for (int i = 0; i < MOST_BYTES && sign == '&'; i++) {
                step();
                readTest(deep);
                put(AND, 0);
            }
        }

        private void readTest(int deep) {
            boolean not = sign == '!';
            boolean opens = sign == '(';
            if ((not || opens) && deep >= MOST_DEEP) {
                fail();
            } else if (not) {
                step();
                readTest(deep + 1);
                put(NOT, 0);
            } else if (opens) {
                step();
                readOrs(deep + 1);
                stepOver(')');
            } else {
                readSum();
                int compares = sign == '<' ? LESS : sign == '=' ? EQUAL : MORE;
                stepOver(compares == LESS ? '<' : compares == EQUAL ? '=' : '>');
                readSum();
                put(compares, 0);
            }
        }

        private void readSum() {
            readUnit();
            for (int i = 0; i < MOST_BYTES && (sign == '+' || sign == '-'); i++) {
                int joins = sign == '+' ? PLUS : MINUS;
                step();
                readUnit();
                put(joins, 0);
            }
        }

        private void readUnit() {
            int unit = unitOf(sign);
            if (unit < 0) {
                fail();
            } else if (unit == NUMBER) {
                put(NUMBER, readDigits(1, 5));
            } else {
                step();
                put(unit, unit == TICK ? 0 : readDigits(2, 2));
            }
        }

        private static int unitOf(int sign) {
            switch (sign) {
                case 't': return TICK;
                case 'p': return PRESS;
                case 'h': return HEADS;
                case 'u': return PUSH;
                case 'l': return WENT;
                case 'w': return WAITS;
                default: return sign >= '0' && sign <= '9' ? NUMBER : -1;
            }
        }

        private void readAct() {
            int act;
            switch (sign) {
                case 'o': act = ACT_OPEN; break;
                case 's': act = ACT_SHUT; break;
                case 'k': act = ACT_HOLD; break;
                case 'g': act = ACT_GO; break;
                case 'b': act = ACT_TURN; break;
                default: fail(); return;
            }
            step();
            int number = readDigits(2, 2);
            if (actCount + 1 < acts.length) {
                acts[actCount] = act;
                acts[actCount + 1] = number;
                actCount += 2;
            }
        }

        private int readDigits(int least, int most) {
            int number = 0;
            int digits = 0;
            for (int i = 0; i < most && sign >= '0' && sign <= '9'; i++) {
                number = 10 * number + sign - '0';
                digits++;
                step();
            }
            if (digits < least) {
                fail();
            }
            return number;
        }

        private void step() {
            at++;
            sign = at < length ? tape[at] : END;
        }

        private void stepOver(int wanted) {
            if (sign == wanted) {
                step();
            } else {
                fail();
            }
        }

        /** Only the first fault counts: what is looked for behind it fails only because of it. */
        private void fail() {
            if (fault < 0) {
                fault = at;
            }
            sign = END;
        }

        private void put(int kind, int number) {
            if (testCount < tests.length) {
                tests[testCount] = kind << KIND_SHIFT | number;
                testCount++;
            }
        }
    }

    /** What was told of the counts, in the order in which it was told. */
    private static final class Tellings {
        private final int[] link = new int[MOST_TELLINGS];
        private final int[] tick = new int[MOST_TELLINGS];
        private final int[] told = new int[MOST_TELLINGS];
        final int[] heads = new int[MOST_TELLINGS];
        int length;

        void add(int l, int t, int h, int now) {
            if (length < MOST_TELLINGS) {
                link[length] = l;
                tick[length] = t;
                heads[length] = h;
                told[length] = now;
                length++;
            }
        }

        /** The number of the telling that counted on tick k; -1 if there was none. */
        int latest(int l, int t, int k) {
            for (int i = length - 1; i >= 0; i--) {
                if (link[i] == l && tick[i] == t && told[i] <= k) {
                    return i;
                }
            }
            return -1;
        }

        int off(int l, int k, Link counted) {
            int all = 0;
            for (int i = 0; i < length; i++) {
                if (link[i] == l && latest(l, tick[i], k) == i) {
                    all += Math.abs(heads[i] - counted.wentOn(tick[i]));
                }
            }
            return all;
        }
    }

    /** The ground with all that is on it, and how a tick passes on it. */
    private static final class World {
        final Area[] areas = new Area[MOST_AREAS];
        int areaCount;
        final Link[] links = new Link[MOST_LINKS];
        int linkCount;
        final Folk[] folks = new Folk[MOST_FOLK];
        int folkCount;
        final Train[] trains = new Train[MOST_TRAINS];
        int trainCount;
        /** A trial has the world's own: no tick changes an order. */
        Order[] orders = new Order[MOST_ORDERS];
        int orderCount;
        /** Whether an order was asked as the last tick ended, and held. */
        final boolean[] held = new boolean[MOST_ORDERS];
        final Given given = new Given();
        final Ways ways = new Ways();
        final int[] rule = RULE_FIRST.clone();
        int tick;
        int block = -1;
        /** The greatest press as a tick ended since an emptying began, and where it was. */
        int topPress;
        int topArea;
        /** Whether anyone came to the end of a link in this tick. */
        private boolean arrived;
        private final int[] stack = new int[MOST_BYTES];

        boolean isArea(int i) {
            return i >= 0 && i < areaCount;
        }

        boolean isGoal(int i) {
            return isArea(i) && areas[i].kind == GOAL;
        }

        boolean isLink(int i) {
            return i >= 0 && i < linkCount;
        }

        boolean isFolk(int i) {
            return i >= 0 && i < folkCount;
        }

        boolean isTrain(int i) {
            return i >= 0 && i < trainCount;
        }

        boolean isOrder(int i) {
            return i >= 0 && i < orderCount;
        }

        void copyFrom(World other) {
            copyGround(other);
            for (int i = 0; i < other.folkCount; i++) {
                Folk from = other.folks[i];
                if (i >= folkCount) {
                    folks[i] = new Folk(from.home, from.heads, from.goal, from.kind);
                }
                folks[i].copyFrom(from);
            }
            folkCount = other.folkCount;
            for (int i = 0; i < other.trainCount; i++) {
                Train from = other.trains[i];
                if (i >= trainCount) {
                    trains[i] = new Train(from.area, from.first, from.every, from.takes);
                }
                trains[i].held = from.held;
            }
            trainCount = other.trainCount;
            orders = other.orders;
            orderCount = other.orderCount;
            System.arraycopy(other.held, 0, held, 0, held.length);
            given.copyFrom(other.given);
            System.arraycopy(other.rule, 0, rule, 0, rule.length);
            tick = other.tick;
            ways.forget();
        }

        private void copyGround(World other) {
            for (int i = 0; i < other.areaCount; i++) {
                Area from = other.areas[i];
                if (i >= areaCount) {
                    areas[i] = new Area(from.kind, from.room);
                }
                areas[i].copyFrom(from);
            }
            areaCount = other.areaCount;
            for (int i = 0; i < other.linkCount; i++) {
                Link from = other.links[i];
                if (i >= linkCount) {
                    links[i] = new Link(from.a, from.b, from.far);
                }
                links[i].copyFrom(from);
            }
            linkCount = other.linkCount;
        }

        void change(int link, int what, int v) {
            links[link].setting[what] = v;
            ways.forget();
        }

        void shift(int area, int heads) {
            areas[area].heads += heads;
            if (areas[area].seeTight(rule[TIGHT])) {
                ways.forget();
            }
        }

        void seeAllTight() {
            for (int a = 0; a < areaCount; a++) {
                areas[a].seeTight(rule[TIGHT]);
            }
            ways.forget();
        }

        int allInside() {
            int heads = allOnWay();
            for (int f = 0; f < folkCount; f++) {
                heads += folks[f].inAreas;
            }
            return heads;
        }

        private int allOnWay() {
            int heads = 0;
            for (int a = 0; a < areaCount; a++) {
                heads += areas[a].coming;
            }
            return heads;
        }

        int allOut() {
            int heads = 0;
            for (int f = 0; f < folkCount; f++) {
                heads += folks[f].outs;
            }
            return heads;
        }

        int allFell() {
            int heads = 0;
            for (int a = 0; a < areaCount; a++) {
                heads += areas[a].fell;
            }
            return heads;
        }

        int allTaken() {
            int heads = 0;
            for (int i = 0; i < trainCount; i++) {
                heads += trains[i].taken;
            }
            return heads;
        }

        int ordersThatStand() {
            int standing = 0;
            for (int o = 0; o < orderCount; o++) {
                standing += orders[o].stands ? 1 : 0;
            }
            return standing;
        }

        /** Ticks pass until it is over, or a press is above the bound: how many; NONE if most were not enough. */
        int empty(int most, int bound) {
            topPress = -1;
            topArea = NONE;
            boolean over = isOver();
            int passed = 0;
            while (!over && passed < most && topPress <= bound) {
                pass();
                passed++;
                over = isOver();
                if (!over && isStuck()) {
                    // nothing but pushing and falling can come any more, so the rest of the tick is not gone through
                    for (; passed < most; passed++) {
                        pressOn();
                    }
                }
            }
            return over ? passed : NONE;
        }

        private boolean isOver() {
            for (int f = 0; f < folkCount; f++) {
                if (!folks[f].isWhereItShould()) {
                    return false;
                }
            }
            return true;
        }

        /** Nobody came, so that all might have gone, but nobody is on the way: no later tick will find it otherwise. */
        private boolean isStuck() {
            return !arrived && allOnWay() == 0 && given.firstUnheard == given.length && ordersThatStand() == 0;
        }

        void pass() {
            tick++;
            arrived = false;
            hear();
            comeIn();
            goOn();
            pressOn();
            board();
            ask();
        }

        private void hear() {
            for (int i = given.firstUnheard; i < given.length; i++) {
                if (given.heard[i] == tick) {
                    perform(given.act[i], given.number[i]);
                }
            }
            given.passOverHeard(tick);
        }

        private void perform(int act, int number) {
            switch (act) {
                case ACT_OPEN:
                case ACT_SHUT:
                    if (isLink(number)) {
                        change(number, OPEN, act == ACT_OPEN ? 1 : 0);
                    }
                    break;
                case ACT_HOLD:
                case ACT_GO:
                    if (isTrain(number)) {
                        trains[number].held = act == ACT_HOLD;
                    }
                    break;
                default:
                    if (isFolk(number)) {
                        folks[number].turned = !folks[number].turned;
                    }
            }
        }

        private void comeIn() {
            for (int l = 0; l < linkCount; l++) {
                Link link = links[l];
                link.went = 0;
                for (int direction = 0; direction < 2; direction++) {
                    int row = link.rowOf(direction, tick);
                    if (link.wayAll[row] > 0) {
                        arrived = true;
                        areas[direction == 0 ? link.b : link.a].coming -= link.wayAll[row];
                        link.wayAll[row] = 0;
                        arrive(link, row, direction == 0 ? link.b : link.a);
                    }
                }
            }
        }

        private void arrive(Link link, int row, int end) {
            for (int f = 0; f < folkCount; f++) {
                Folk folk = folks[f];
                int heads = link.way[row * MOST_FOLK + f];
                link.way[row * MOST_FOLK + f] = 0;
                if (heads > 0 && !folk.turned && end == folk.goal) {
                    folk.outs += heads;
                    folk.lastOut = tick;
                    areas[end].waits += heads;
                } else if (heads > 0) {
                    folk.in[end] += heads;
                    folk.came[end] += heads;
                    folk.inAreas += heads;
                    shift(end, heads);
                }
            }
        }

        private void goOn() {
            for (int f = 0; f < folkCount; f++) {
                Folk folk = folks[f];
                int unseen = folk.inAreas;
                for (int a = 0; a < areaCount && unseen > 0; a++) {
                    unseen -= folk.in[a];
                    int heads = folk.in[a] - folk.came[a];
                    folk.came[a] = 0;
                    if (heads > 0 && a != folk.target()) {
                        leave(f, a, heads);
                    }
                }
            }
        }

        private void leave(int f, int a, int heads) {
            Folk folk = folks[f];
            int l = ways.first[ways.rowTo(this, folk.target(), folk.kind == WHEELS) + a];
            if (l < 0) {
                return;
            }
            Link link = links[l];
            int direction = link.a == a ? 0 : 1;
            int end = direction == 0 ? link.b : link.a;
            int going = fitting(folk.kind, heads, link, areas[end].roomLeft(rule[PACE]));
            if (going <= 0) {
                return;
            }
            link.went += going;
            int row = link.rowOf(direction, tick);
            link.way[row * MOST_FOLK + f] += going;
            link.wayAll[row] += going;
            areas[end].coming += going;
            folk.in[a] -= going;
            folk.inAreas -= going;
            shift(a, -going);
        }

        private static int fitting(int kind, int heads, Link link, int room) {
            int wide = link.setting[WIDE];
            if (kind != KIN) {
                return Math.min(heads, Math.min(wide - link.went, room));
            }
            boolean fits = heads <= wide - link.went || heads > wide && link.went == 0;
            return fits && heads <= room ? heads : 0;
        }

        private void pressOn() {
            for (int a = 0; a < areaCount; a++) {
                int press = areas[a].press();
                areas[a].fall(press, tick);
                if (press > topPress) {
                    topPress = press;
                    topArea = a;
                }
            }
        }

        private void board() {
            for (int i = 0; i < trainCount; i++) {
                Train train = trains[i];
                if (train.comesOn(tick)) {
                    int boards = Math.min(train.takes, areas[train.area].waits);
                    areas[train.area].waits -= boards;
                    train.taken += boards;
                }
            }
        }

        private void ask() {
            for (int o = 0; o < orderCount; o++) {
                boolean now = orders[o].stands && isTrue(orders[o]);
                if (now && !held[o]) {
                    give(o);
                }
                held[o] = now;
            }
        }

        private void give(int o) {
            int[] acts = orders[o].acts;
            for (int i = 0; i + 1 < acts.length && given.length < MOST_GIVEN; i += 2) {
                boolean ofLink = acts[i] == ACT_OPEN || acts[i] == ACT_SHUT;
                int later = ofLink && isLink(acts[i + 1]) ? links[acts[i + 1]].setting[HEARS] : 0;
                given.order[given.length] = o;
                given.tick[given.length] = tick;
                given.act[given.length] = acts[i];
                given.number[given.length] = acts[i + 1];
                given.heard[given.length] = tick + later + 1;
                given.length++;
            }
        }

        boolean isTrue(Order order) {
            int top = 0;
            for (int i = 0; i < order.tests.length; i++) {
                int kind = order.tests[i] >> Reader.KIND_SHIFT;
                if (kind <= Reader.WAITS && top < stack.length) {
                    stack[top] = worth(kind, order.tests[i] & Reader.NUMBER_MASK);
                    top++;
                } else if (kind == Reader.NOT && top > 0) {
                    stack[top - 1] = 1 - stack[top - 1];
                } else if (top > 1) {
                    top--;
                    stack[top - 1] = joined(kind, stack[top - 1], stack[top]);
                }
            }
            return top > 0 && stack[0] != 0;
        }

        private int worth(int kind, int number) {
            switch (kind) {
                case Reader.NUMBER: return number;
                case Reader.TICK: return tick;
                case Reader.PRESS: return isArea(number) ? areas[number].press() : 0;
                case Reader.HEADS: return isArea(number) ? areas[number].heads : 0;
                case Reader.PUSH: return isArea(number) ? areas[number].push : 0;
                case Reader.WENT: return isLink(number) ? links[number].went : 0;
                default: return isArea(number) ? areas[number].waits : 0;
            }
        }

        private static int joined(int kind, int left, int right) {
            switch (kind) {
                case Reader.PLUS: return left + right;
                case Reader.MINUS: return left - right;
                case Reader.LESS: return left < right ? 1 : 0;
                case Reader.EQUAL: return left == right ? 1 : 0;
                case Reader.MORE: return left > right ? 1 : 0;
                case Reader.AND: return left & right;
                default: return left | right;
            }
        }
    }
}
