import java.util.ArrayList;
import java.util.List;
import java.util.function.Supplier;

/**
 * The refusals of each call. First its arguments on both sides of every edge, all against all: the answer is the number
 * of the first refusal that fits in the order in which the promise tells them, and that one is counted. Then that
 * refused calls change nothing but how many there were.
 */
public final class RefusalsTest extends Check {
    private static final int MIN = Integer.MIN_VALUE;
    private static final int MAX = Integer.MAX_VALUE;
    /** The first questions of total() are of what a refused call must leave. */
    private static final int WHOLE = 18;

    public static void main(String[] args) {
        area();
        link();
        linkSet();
        folk();
        folkRoom();
        train();
        hold();
        set();
        ticks();
        areaOf();
        folkOf();
        ways();
        feed();
        order();
        standAndHolds();
        given();
        counted();
        count();
        wrong();
        out();
        worst();
        option();
        design();
        kin();
        total();
        changeNothing();
        countEach();
        end();
    }

    /** The call's answer, and that it was counted if it is a refusal, and that nothing was if it is none. */
    private static void edge(String told, CrowdOut x, Call call, int want) {
        int[] before = new int[WHOLE];
        for (int i = 0; i < WHOLE; i++) before[i] = x.total(i);
        due(told, call.on(x), want);
        boolean refused = want < 0 && want > -7;
        for (int i = 11; i < 17; i++) {
            due(told + ", total(" + i + ")", x.total(i), before[i] + (refused && i == 10 - want ? 1 : 0));
        }
        for (int i = 0; i < WHOLE && refused; i++) {
            if (i < 11 || i > 16) due(told + ", total(" + i + ")", x.total(i), before[i]);
        }
    }

    private static String of(String name, long... args) {
        StringBuilder s = new StringBuilder(name).append('(');
        for (int i = 0; i < args.length; i++) s.append(i == 0 ? "" : ", ").append(args[i]);
        return s.append(')').toString();
    }

    private static boolean among(int v, int least, int most) {
        return v >= least && v <= most;
    }

    /** So many areas, of the kinds 0, 1, 2, 3, 0 .. in turn. */
    private static CrowdOut areas(int n) {
        CrowdOut x = new CrowdOut();
        for (int i = 0; i < n; i++) x.area(i % 4, 100);
        return x;
    }

    /** A pen, a stair and a goal, and so many links between the first two. */
    private static CrowdOut links(int n) {
        CrowdOut x = new CrowdOut();
        x.area(0, 100);
        x.area(1, 100);
        x.area(3, 100);
        for (int i = 0; i < n; i++) x.link(0, 1, 5, 1);
        return x;
    }

    private static void area() {
        about("promise 2: -2 KIND; -4; -6 (ROOM 1 .. 20000; 20, too)");
        for (int n : new int[] {0, 1, 19, 20})
            for (int kind : new int[] {MIN, -1, 0, 1, 2, 3, 4, MAX})
                for (int room : new int[] {MIN, -1, 0, 1, 2, 19999, 20000, 20001, MAX}) {
                    int want = !among(kind, 0, 3) ? -2 : room < 1 ? -4 : room > 20000 || n == 20 ? -6 : n;
                    CrowdOut x = areas(n);
                    edge(n + " areas, " + of("area", kind, room), x, y -> y.area(kind, room), want);
                    if (want >= 0) {
                        due(x.total(1), n + 1);
                        due(x.areaOf(n, 0), kind);
                        due(x.areaOf(n, 1), room);
                    }
                }
    }

    private static void link() {
        about("promise 3: -1 (also one); -4; -6 (WIDE 1 .. 999, FAR 1 .. 9; 30, too)");
        for (int n : new int[] {0, 29, 30})
            for (int a : new int[] {MIN, -1, 0, 2, 3, MAX})
                for (int b : new int[] {MIN, -1, 0, 2, 3, MAX})
                    for (int wide : new int[] {MIN, 0, 1, 999, 1000, MAX})
                        for (int far : new int[] {MIN, 0, 1, 9, 10, MAX}) {
                            int want = !among(a, 0, 2) || !among(b, 0, 2) || a == b ? -1
                                    : wide < 1 || far < 1 ? -4
                                    : wide > 999 || far > 9 || n == 30 ? -6 : n;
                            CrowdOut x = links(n);
                            edge(n + " links, " + of("link", a, b, wide, far), x, y -> y.link(a, b, wide, far), want);
                            if (want >= 0) {
                                due(x.total(2), n + 1);
                                due(x.linkSet(n, 4, 7), wide);
                            }
                        }
    }

    private static final int[] LEAST = {0, 0, 0, 0, 1};
    private static final int[] MOST = {1, 2, 1, 20, 999};
    private static final int[] AT_FIRST = {1, 0, 0, 0, 5};

    private static int settingDue(int links, int link, int what, int v) {
        return !among(link, 0, links - 1) ? -1 : !among(what, 0, 4) ? -2
                : v < LEAST[what] ? -4 : v > MOST[what] ? -6 : 0;
    }

    private static void linkSet() {
        about("promise 4: -1; -2; -4; -6");
        for (int n : new int[] {0, 1, 30})
            for (int link : new int[] {MIN, -1, 0, 1, 29, 30, MAX})
                for (int what : new int[] {MIN, -1, 0, 1, 2, 3, 4, 5, MAX})
                    for (int v : new int[] {MIN, -1, 0, 1, 2, 3, 20, 21, 999, 1000, MAX}) {
                        int refusal = settingDue(n, link, what, v);
                        CrowdOut x = links(n);
                        String told = n + " links, " + of("linkSet", link, what, v);
                        edge(told, x, y -> y.linkSet(link, what, v), refusal < 0 ? refusal : AT_FIRST[what]);
                        if (refusal == 0) due(told, x.linkSet(link, what, LEAST[what]), v);
                        if (refusal != -1 && among(what, 0, 4) && refusal != 0)
                            due(told, x.linkSet(link, what, LEAST[what]), AT_FIRST[what]);
                    }
    }

    /** Areas 0 PEN and 1 STAIR of 100 each, 2 and 3 GOALS of 100, and so many folk of one head in area 1. */
    private static CrowdOut folks(int n) {
        CrowdOut x = links(1);
        x.area(3, 100);
        for (int i = 0; i < n; i++) x.folk(1, 1, 2, 0);
        return x;
    }

    private static void folk() {
        about("promise 5: -1 (GOAL: none of KIND 3, too); -2 KIND; -3 the AREA is the GOAL; -4; -6");
        for (int n : new int[] {0, 23, 24})
            for (int area : new int[] {MIN, -1, 0, 2, 4, MAX})
                for (int heads : new int[] {MIN, -1, 0, 1, 100, 101, 9999, 10000, MAX})
                    for (int goal : new int[] {MIN, -1, 0, 1, 2, 3, 4, MAX})
                        for (int kind : new int[] {MIN, -1, 0, 1, 2, 3, MAX}) {
                            int want = !among(area, 0, 3) || goal != 2 && goal != 3 ? -1
                                    : !among(kind, 0, 2) ? -2
                                    : area == goal ? -3
                                    : heads < 1 ? -4
                                    : heads > 100 || n == 24 ? -6 : n;
                            CrowdOut x = folks(n);
                            edge(n + " folk, " + of("folk", area, heads, goal, kind), x,
                                    y -> y.folk(area, heads, goal, kind), want);
                            if (want >= 0) due(x.areaOf(area, 2), heads);
                        }
    }

    private static void folkRoom() {
        about("promise 5: HEADS 1 .. 9999; HEADS of the AREA would be above ROOM");
        for (int heads : new int[] {9998, 9999, 10000}) {
            CrowdOut x = new CrowdOut();
            x.area(0, 20000);
            x.area(3, 1);
            edge(of("folk", 0, heads, 1, 0), x, y -> y.folk(0, heads, 1, 0), heads > 9999 ? -6 : 0);
        }
        // of all folk in it: there is room for 40 behind the first 60, also in a goal
        for (int area : new int[] {0, 3})
            for (int heads : new int[] {39, 40, 41}) {
                CrowdOut x = folks(0);
                x.folk(area, 60, 2, 0);
                edge(of("folk", area, heads, 2, 0), x, y -> y.folk(area, heads, 2, 0), heads > 40 ? -6 : 1);
            }
        // who is on the way to it, or has come out there, is not in it; who has left it, neither
        CrowdOut x = line(10, 5, 10, 1);
        x.folk(0, 10, 2, 0);
        x.folk(1, 10, 2, 0);
        x.ticks(1);
        edge("while on the way", x, y -> y.folk(0, 101, 2, 0), -6);
        edge("while on the way", x, y -> y.folk(0, 100, 2, 0), 2);
        edge("while on the way", x, y -> y.folk(1, 51, 2, 0), -6);
        edge("while on the way", x, y -> y.folk(1, 50, 2, 0), 3);
        x.ticks(1);
        x.area(3, 1);
        edge("in a goal", x, y -> y.folk(2, 11, 3, 0), -6);
        edge("in a goal", x, y -> y.folk(2, 10, 3, 0), 4);
        // an area above its ROOM has room for nobody
        CrowdOut z = line(99, 1, 1, 1);
        z.folk(0, 60, 2, 0);
        z.ticks(2);
        due(z.areaOf(1, 3), 120);
        edge("above its room", z, y -> y.folk(1, 1, 2, 0), -6);
    }

    private static void train() {
        about("promise 6: -1 (none of KIND 3, too); -4 (FIRST ahead of TICK, too); -6 (FIRST 999, EVERY 1 .. 200, ..)");
        for (int n : new int[] {0, 7, 8})
            for (int tick : new int[] {0, 5})
                for (int area : new int[] {MIN, -1, 0, 1, 2, 3, MAX})
                    for (int first : new int[] {MIN, -1, 0, 4, 5, 999, 1000, MAX})
                        for (int every : new int[] {MIN, 0, 1, 200, 201, MAX})
                            for (int takes : new int[] {MIN, 0, 1, 9999, 10000, MAX}) {
                                int want = area != 2 ? -1
                                        : first < tick || every < 1 || takes < 1 ? -4
                                        : first > 999 || every > 200 || takes > 9999 || n == 8 ? -6 : n;
                                CrowdOut x = line(1, 1, 1, 1);
                                if (tick > 0) x.ticks(tick);
                                for (int i = 0; i < n; i++) x.train(2, 9, 1, 1);
                                edge(n + " trains, TICK " + tick + ", " + of("train", area, first, every, takes), x,
                                        y -> y.train(area, first, every, takes), want);
                                if (want >= 0) due(x.total(7), n + 1);
                            }
        for (int kind = 0; kind < 4; kind++) {
            int goal = kind;
            edge("kind " + kind, areas(4), y -> y.train(goal, 0, 1, 1), kind == 3 ? 0 : -1);
        }
        CrowdOut last = line(1, 1, 1, 1);
        last.ticks(999);
        edge("TICK 999", last, y -> y.train(2, 998, 1, 1), -4);
        edge("TICK 999", last, y -> y.train(2, 999, 1, 1), 0);
        edge("TICK 999", last, y -> y.train(2, 1000, 1, 1), -6);
    }

    private static void hold() {
        about("promise 7: 1; 0 if it was so. -1");
        for (int n : new int[] {0, 1, 8})
            for (int train : new int[] {MIN, -1, 0, 1, 7, 8, MAX})
                for (int on = 0; on < 2; on++) {
                    boolean held = on == 1;
                    int want = !among(train, 0, n - 1) ? -1 : on;
                    CrowdOut x = line(1, 1, 1, 1);
                    for (int i = 0; i < n; i++) x.train(2, 9, 1, 1);
                    edge(n + " trains, hold(" + train + ", " + held + ")", x, y -> y.hold(train, held), want);
                    if (want >= 0) due(x.hold(train, held), 0);
                    if (want >= 0) due(x.hold(train, !held), 1);
                }
    }

    private static void set() {
        about("promise 8: -2; -4; -6 (PACE 100 .. 300, TIGHT 10 .. 300, LONG 0 .. 50)");
        int[] least = {100, 10, 0};
        int[] most = {300, 300, 50};
        int[] first = {150, 100, 5};
        for (int what : new int[] {MIN, -1, 0, 1, 2, 3, MAX})
            for (int v : new int[] {MIN, -1, 0, 9, 10, 50, 51, 99, 100, 300, 301, MAX}) {
                int want = !among(what, 0, 2) ? -2 : v < least[what] ? -4 : v > most[what] ? -6 : first[what];
                CrowdOut x = new CrowdOut();
                edge(of("set", what, v), x, y -> y.set(what, v), want);
                for (int i = 0; i < 3; i++) due(of("set", what, v), x.set(i, least[i]), want >= 0 && i == what ? v : first[i]);
            }
    }

    private static void ticks() {
        about("promise 9: -4; -6 above 999 in all");
        for (int before : new int[] {0, 1, 500, 998, 999})
            for (int n : new int[] {MIN, -1, 0, 1, 2, 498, 499, 500, 998, 999, 1000, MAX - 998, MAX}) {
                CrowdOut x = new CrowdOut();
                if (before > 0) x.ticks(before);
                int want = n < 1 ? -4 : n > 999 - before ? -6 : 0;
                edge("TICK " + before + ", " + of("ticks", n), x, y -> y.ticks(n), want);
                due(x.total(0), want == 0 ? before + n : before);
            }
    }

    private static void areaOf() {
        about("promise 10: -1; -2");
        for (int n : new int[] {0, 1, 20})
            for (int area : new int[] {MIN, -1, 0, 1, 19, 20, MAX})
                for (int what : new int[] {MIN, -1, 0, 1, 2, 3, 4, 5, 6, 7, 8, MAX}) {
                    int want = !among(area, 0, n - 1) ? -1 : !among(what, 0, 7) ? -2
                            : what == 0 ? area % 4 : what == 1 ? 100 : what == 7 ? -9 : 0;
                    edge(n + " areas, " + of("areaOf", area, what), areas(n), y -> y.areaOf(area, what), want);
                }
    }

    private static void folkOf() {
        about("promise 11: -1 (i, too, for 0, 1); -2");
        for (int n : new int[] {0, 1, 24})
            for (int folk : new int[] {MIN, -1, 0, 1, 23, 24, MAX})
                for (int what : new int[] {MIN, -1, 0, 1, 2, 3, 4, 5, MAX})
                    for (int i : new int[] {MIN, -1, 0, 1, 3, 4, MAX}) {
                        int want = !among(folk, 0, n - 1) || what == 0 && !among(i, 0, 3) || what == 1 && i != 0 ? -1
                                : !among(what, 0, 4) ? -2
                                : what == 0 && i == 1 ? 1 : what == 3 ? 2 : what == 4 ? -9 : 0;
                        edge(n + " folk, " + of("folkOf", folk, what, i), folks(n), y -> y.folkOf(folk, what, i), want);
                    }
    }

    private static void ways() {
        about("promises 12 and 13: -9 none (0 at the GOAL). -1");
        for (int n : new int[] {0, 4, 20})
            for (int area : new int[] {MIN, -1, 0, 3, 4, 19, 20, MAX})
                for (int goal : new int[] {MIN, -1, 0, 1, 2, 3, 4, 19, 20, MAX})
                    for (int wheels = 0; wheels < 2; wheels++) {
                        boolean onWheels = wheels == 1;
                        boolean asked = among(area, 0, n - 1) && among(goal, 0, n - 1) && goal % 4 == 3;
                        String told = n + " areas, " + of("", area, goal, wheels);
                        edge("next" + told, areas(n), y -> y.next(area, goal, onWheels), asked ? -9 : -1);
                        edge("walk" + told, areas(n), y -> y.walk(area, goal, onWheels),
                                !asked ? -1 : area == goal ? 0 : -9);
                    }
    }

    private static void feed() {
        about("promise 14: -4; -6 (n; above 120)");
        for (int before : new int[] {0, 1, 111, 112, 113, 119, 120})
            for (int n : new int[] {MIN, -1, 0, 1, 2, 7, 8, 9, MAX}) {
                CrowdOut x = new CrowdOut();
                tape(x, "x".repeat(before));
                int want = n < 1 ? -4 : n > 8 || before + n > 120 ? -6 : before + n;
                edge(before + " bytes, " + of("feed", n), x, y -> y.feed(n, -1L), want);
                due(x.total(17), Math.max(before, want));
            }
    }

    private static void order() {
        about("promise 15: -2 another state; -6 12. (Refused: THE TAPE stays.)");
        for (int n : new int[] {0, 11, 12})
            for (int state : new int[] {MIN, -1, 0, 1, 2, MAX})
                for (String text : new String[] {"", "t", "t=1:o00", "t=1:o00" + "x".repeat(113)}) {
                    CrowdOut x = new CrowdOut();
                    for (int i = 0; i < n; i++) order(x, "t=1:o00");
                    tape(x, text);
                    boolean refused = !among(state, 0, 1) || n == 12;
                    int want = !among(state, 0, 1) ? -2 : n == 12 ? -6
                            : text.length() == 7 ? n : text.length() == 120 ? -27 : -20 - text.length();
                    edge(n + " orders, " + of("order", state) + " of " + text, x, y -> y.order(state), want);
                    due(x.total(17), refused ? text.length() : 0);
                    due(x.total(9), n + (want == n && state == 1 ? 1 : 0));
                    // what stayed is still the same tape
                    if (refused && n < 12 && text.length() == 7) due(x.order(1), n);
                    if (refused && n < 12 && text.length() == 120) due(x.order(1), -27);
                }
    }

    private static void standAndHolds() {
        about("promises 16 and 17: 1; 0 if it was so. -1");
        for (int n : new int[] {0, 1, 12})
            for (int order : new int[] {MIN, -1, 0, 1, 11, 12, MAX}) {
                Supplier<CrowdOut> made = () -> {
                    CrowdOut x = new CrowdOut();
                    for (int i = 0; i < n; i++) order(x, i % 2 == 0 ? "t=1:o00" : "t=0:o00");
                    return x;
                };
                boolean is = among(order, 0, n - 1);
                String told = n + " orders, of " + order;
                edge("stand " + told, made.get(), y -> y.stand(order, true), is ? 0 : -1);
                edge("strike " + told, made.get(), y -> y.stand(order, false), is ? 1 : -1);
                edge("holds " + told, made.get(), y -> y.holds(order), is ? order % 2 : -1);
            }
    }

    private static void given() {
        about("promise 18: -9 there is none such. -2");
        for (int n : new int[] {0, 1, 29})
            for (int i : new int[] {MIN, -1, 0, 1, 28, 29, 200, MAX})
                for (int what : new int[] {MIN, -1, 0, 4, 5, MAX}) {
                    CrowdOut x = new CrowdOut();
                    if (n > 0) order(x, "t=1:" + "o00;".repeat(n - 1) + "o00");
                    x.ticks(1);
                    due(x.total(10), n);
                    int want = !among(what, 0, 4) ? -2 : !among(i, 0, n - 1) ? -9 : what == 0 ? 0 : 2;
                    edge(n + " given, " + of("given", i, what), x, y -> y.given(i, what), want);
                }
    }

    private static void counted() {
        about("promise 19: -1; -3 a TICK behind now; -4; -6 (HEADS 99999; 60, too)");
        for (int n : new int[] {0, 59, 60})
            for (int now : new int[] {0, 5, 999})
                for (int link : new int[] {MIN, -1, 0, 1, 2, MAX})
                    for (int tick : new int[] {MIN, -1, 0, 1, 4, 5, 6, 999, 1000, MAX})
                        for (int heads : new int[] {MIN, -1, 0, 99999, 100000, MAX}) {
                            int want = !among(link, 0, 1) ? -1 : tick > now ? -3
                                    : tick < 0 || heads < 0 ? -4 : heads > 99999 || n == 60 ? -6 : n + 1;
                            CrowdOut x = links(2);
                            if (now > 0) x.ticks(now);
                            for (int i = 0; i < n; i++) x.counted(0, 0, 3);
                            edge(n + " tellings, TICK " + now + ", " + of("counted", link, tick, heads), x,
                                    y -> y.counted(link, tick, heads), want);
                            if (want >= 0) due(x.count(link, tick, now), heads);
                            if (want < 0 && n == 60) due(x.count(0, 0, 999), 3);
                        }
    }

    private static void count() {
        about("promise 20: -9 none. -1; -4; -6 (TICKS 0 .. 999)");
        for (int link : new int[] {MIN, -1, 0, 1, 2, MAX})
            for (int tick : new int[] {MIN, -1, 0, 1, 999, 1000, MAX})
                for (int k : new int[] {MIN, -1, 0, 1, 999, 1000, MAX}) {
                    int want = !among(link, 0, 1) ? -1 : tick < 0 || k < 0 ? -4 : tick > 999 || k > 999 ? -6
                            : link == 1 && tick == 0 ? 7 : -9;
                    CrowdOut x = links(2);
                    x.counted(1, 0, 7);
                    edge(of("count", link, tick, k), x, y -> y.count(link, tick, k), want);
                }
    }

    private static void wrong() {
        about("promise 21: -1; -4; -6");
        for (int link : new int[] {MIN, -1, 0, 1, 2, MAX})
            for (int k : new int[] {MIN, -1, 0, 1, 999, 1000, MAX}) {
                int want = !among(link, 0, 1) ? -1 : k < 0 ? -4 : k > 999 ? -6 : link == 1 ? 7 : 0;
                CrowdOut x = links(2);
                x.counted(1, 0, 7);
                edge(of("wrong", link, k), x, y -> y.wrong(link, k), want);
            }
    }

    private static void out() {
        about("promise 22: with a LINK blocked (-1: none). -1; -2");
        for (int n : new int[] {0, 1, 30})
            for (int block : new int[] {MIN, -2, -1, 0, 1, 29, 30, MAX})
                for (int what : new int[] {MIN, -1, 0, 1, 2, 3, 4, MAX}) {
                    int want = !among(block, -1, n - 1) ? -1 : !among(what, 0, 3) ? -2 : what == 2 ? -9 : 0;
                    edge(n + " links, " + of("out", block, what), links(n), y -> y.out(block, what), want);
                }
    }

    private static void worst() {
        about("promise 23: -9 there is no LINK. -2");
        for (int n : new int[] {0, 1, 30})
            for (int what : new int[] {MIN, -1, 0, 1, 2, 3, MAX})
                edge(n + " links, " + of("worst", what), links(n), y -> y.worst(what),
                        !among(what, 0, 2) ? -2 : n == 0 ? -9 : 0);
    }

    private static void option() {
        about("promise 24: Refused as that; -6 4, too");
        for (int n : new int[] {0, 3, 4})
            for (int link : new int[] {MIN, -1, 0, 1, 2, MAX})
                for (int what : new int[] {MIN, -1, 0, 1, 2, 3, 4, 5, MAX})
                    for (int v : new int[] {MIN, -1, 0, 1, 2, 3, 20, 21, 999, 1000, MAX}) {
                        int refusal = settingDue(2, link, what, v);
                        int want = refusal < 0 ? refusal : n == 4 ? -6 : n;
                        CrowdOut x = links(2);
                        for (int i = 0; i < n; i++) x.option(0, 4, 5);
                        edge(n + " options, " + of("option", link, what, v), x, y -> y.option(link, what, v), want);
                        if (want < 0) due(x.option(0, 4, 5), n == 4 ? -6 : n);
                    }
    }

    private static void design() {
        about("promise 25: -2; -4; -6 (TICKS 1 .. 300, PRESS 1 .. 999)");
        for (int ticks : new int[] {MIN, -1, 0, 1, 300, 301, MAX})
            for (int press : new int[] {MIN, -1, 0, 1, 999, 1000, MAX})
                for (int what : new int[] {MIN, -1, 0, 1, 2, 3, 4, MAX}) {
                    int want = !among(what, 0, 3) ? -2 : ticks < 1 || press < 1 ? -4
                            : ticks > 300 || press > 999 ? -6 : 0;
                    edge(of("design", ticks, press, what), links(2), y -> y.design(ticks, press, what), want);
                }
    }

    private static void kin() {
        about("promise 26: -1");
        for (int n : new int[] {0, 1, 24})
            for (int folk : new int[] {MIN, -1, 0, 1, 23, 24, MAX})
                edge(n + " folk, " + of("kin", folk), folks(n), y -> y.kin(folk), among(folk, 0, n - 1) ? 1 : -1);
    }

    private static void total() {
        about("promise 27: -9 for another what");
        for (int what : new int[] {MIN, -9, -1, 18, 19, 100, MAX})
            edge(of("total", what), links(1), y -> y.total(what), -9);
        // there is no refusal -5
        due(links(1).total(15), 0);
    }

    // ---- that refused calls change nothing

    private record Refused(int number, String told, Call call) { }

    /** A ground on which all is under way: on links, waiting, turned, given and not yet heard, told, on the tape. */
    private static CrowdOut busy() {
        CrowdOut x = new CrowdOut();
        int[][] areas = {{0, 100}, {1, 50}, {3, 10}, {2, 20}, {3, 5}};
        for (int[] a : areas) x.area(a[0], a[1]);
        int[][] links = {{0, 1, 7, 2}, {1, 2, 5, 1}, {0, 3, 3, 3}, {3, 2, 4, 1}, {3, 4, 9, 2}};
        for (int[] l : links) x.link(l[0], l[1], l[2], l[3]);
        x.folk(0, 40, 2, 0);
        x.folk(0, 6, 2, 1);
        x.folk(0, 5, 4, 2);
        x.folk(1, 9, 4, 0);
        x.train(2, 4, 3, 2);
        x.train(4, 5, 1, 1);
        x.hold(1, true);
        x.linkSet(1, 3, 4);
        x.linkSet(3, 2, 1);
        x.set(0, 130);
        x.set(1, 40);
        x.set(2, 7);
        order(x, "t=3:s01;b03");
        order(x, "p01>10&h00<30:o01;k00");
        tape(x, "w02>0:g00");
        x.order(0);
        x.option(1, 4, 20);
        x.option(2, 0, 0);
        x.ticks(5);
        x.counted(0, 1, 7);
        x.counted(0, 2, 5);
        x.counted(1, 3, 0);
        tape(x, "t>1");
        return x;
    }

    /** A ground that is full of everything, on its last tick. */
    private static CrowdOut full() {
        CrowdOut x = new CrowdOut();
        for (int i = 0; i < 20; i++) x.area(i < 2 ? 3 : i % 3, 30);
        for (int i = 0; i < 30; i++) x.link(i % 20, (i + 1 + i % 3) % 20, 1 + i % 5, 1 + i % 9);
        for (int i = 0; i < 24; i++) x.folk(2 + i % 18, 15, i % 2, i % 3);
        for (int i = 0; i < 8; i++) x.train(i % 2, 3 + i, 20, 1);
        for (int i = 0; i < 4; i++) x.option(i, 4, 50);
        order(x, "t>0:" + "s05;".repeat(25) + "b01");
        order(x, "t>0:" + "k07;".repeat(25) + "b23");
        for (int i = 2; i < 12; i++) order(x, "t=997:s0" + i % 10);
        for (int i = 0; i < 4; i++) {
            x.ticks(1);
            x.stand(0, false);
            x.stand(1, false);
            x.ticks(1);
            x.stand(0, true);
            x.stand(1, true);
        }
        x.ticks(991);
        for (int i = 0; i < 60; i++) x.counted(i % 30, i, i);
        tape(x, "t=1:o00;".repeat(15));
        return x;
    }

    private static void refuse(List<Refused> all, int number, String told, Call call) {
        all.add(new Refused(number, told, call));
    }

    /** One of each refusal of each call that any ground has. */
    private static List<Refused> anywhere() {
        List<Refused> all = new ArrayList<>();
        refuse(all, -2, "area", x -> x.area(4, 9));
        refuse(all, -4, "area", x -> x.area(0, 0));
        refuse(all, -6, "area", x -> x.area(0, 20001));
        refuse(all, -1, "link", x -> x.link(0, 20, 1, 1));
        refuse(all, -1, "link", x -> x.link(1, 1, 1, 1));
        refuse(all, -4, "link", x -> x.link(0, 1, 0, 1));
        refuse(all, -6, "link", x -> x.link(0, 1, 1, 10));
        refuse(all, -1, "linkSet", x -> x.linkSet(30, 0, 0));
        refuse(all, -2, "linkSet", x -> x.linkSet(0, 5, 0));
        for (int what = 0; what < 5; what++) {
            int w = what;
            refuse(all, -4, "linkSet", x -> x.linkSet(1, w, LEAST[w] - 1));
            refuse(all, -6, "linkSet", x -> x.linkSet(1, w, MOST[w] + 1));
            refuse(all, -4, "option", x -> x.option(1, w, LEAST[w] - 1));
            refuse(all, -6, "option", x -> x.option(1, w, MOST[w] + 1));
        }
        refuse(all, -1, "folk", x -> x.folk(20, 1, 4, 0));
        refuse(all, -1, "folk", x -> x.folk(0, 1, 3, 0));
        refuse(all, -6, "ticks", x -> x.ticks(1000));
        refuse(all, -4, "ticks", x -> x.ticks(0));
        refuse(all, -1, "train", x -> x.train(3, 999, 1, 1));
        refuse(all, -1, "hold", x -> x.hold(8, true));
        refuse(all, -1, "hold", x -> x.hold(-1, false));
        refuse(all, -2, "set", x -> x.set(3, 20));
        refuse(all, -4, "set", x -> x.set(0, 99));
        refuse(all, -4, "set", x -> x.set(1, 9));
        refuse(all, -4, "set", x -> x.set(2, -1));
        refuse(all, -6, "set", x -> x.set(0, 301));
        refuse(all, -6, "set", x -> x.set(1, 301));
        refuse(all, -6, "set", x -> x.set(2, 51));
        refuse(all, -4, "feed", x -> x.feed(0, 0x30));
        refuse(all, -6, "feed", x -> x.feed(9, 0x30));
        refuse(all, -2, "order", x -> x.order(2));
        refuse(all, -1, "stand", x -> x.stand(12, false));
        refuse(all, -1, "counted", x -> x.counted(30, 0, 1));
        refuse(all, -3, "counted", x -> x.counted(0, 1000, 1));
        refuse(all, -4, "counted", x -> x.counted(0, 1, -1));
        refuse(all, -6, "counted", x -> x.counted(0, 1, 100000));
        refuse(all, -1, "option", x -> x.option(30, 0, 0));
        refuse(all, -2, "option", x -> x.option(0, 5, 0));
        asked(all);
        return all;
    }

    /** Questions that are refused. */
    private static void asked(List<Refused> all) {
        refuse(all, -1, "areaOf", x -> x.areaOf(20, 0));
        refuse(all, -2, "areaOf", x -> x.areaOf(0, 8));
        refuse(all, -1, "folkOf", x -> x.folkOf(24, 0, 0));
        refuse(all, -1, "folkOf", x -> x.folkOf(0, 1, 30));
        refuse(all, -2, "folkOf", x -> x.folkOf(0, 5, 0));
        refuse(all, -1, "next", x -> x.next(20, 1, false));
        refuse(all, -1, "walk", x -> x.walk(0, 3, true));
        refuse(all, -1, "holds", x -> x.holds(12));
        refuse(all, -2, "given", x -> x.given(0, 5));
        refuse(all, -1, "count", x -> x.count(30, 0, 0));
        refuse(all, -4, "count", x -> x.count(0, -1, 0));
        refuse(all, -6, "count", x -> x.count(0, 0, 1000));
        refuse(all, -1, "wrong", x -> x.wrong(30, 0));
        refuse(all, -4, "wrong", x -> x.wrong(0, -1));
        refuse(all, -6, "wrong", x -> x.wrong(0, 1000));
        refuse(all, -1, "out", x -> x.out(30, 0));
        refuse(all, -2, "out", x -> x.out(-1, 4));
        refuse(all, -2, "worst", x -> x.worst(3));
        refuse(all, -2, "design", x -> x.design(300, 999, 4));
        refuse(all, -4, "design", x -> x.design(0, 999, 0));
        refuse(all, -6, "design", x -> x.design(300, 1000, 0));
        refuse(all, -1, "kin", x -> x.kin(24));
    }

    private static List<Refused> busyRefuses() {
        List<Refused> all = anywhere();
        refuse(all, -2, "folk", x -> x.folk(0, 1, 2, 3));
        refuse(all, -3, "folk", x -> x.folk(2, 1, 2, 0));
        refuse(all, -4, "folk", x -> x.folk(0, 0, 2, 0));
        refuse(all, -6, "folk", x -> x.folk(0, 10000, 2, 0));
        refuse(all, -6, "folk", x -> x.folk(0, 100, 2, 0));
        refuse(all, -4, "train", x -> x.train(2, 4, 1, 1));
        refuse(all, -4, "train", x -> x.train(2, 5, 0, 1));
        refuse(all, -6, "train", x -> x.train(2, 5, 1, 10000));
        refuse(all, -3, "counted", x -> x.counted(0, 6, 1));
        refuse(all, -6, "ticks", x -> x.ticks(995));
        return all;
    }

    private static List<Refused> fullRefuses() {
        List<Refused> all = anywhere();
        refuse(all, -6, "area", x -> x.area(0, 1));
        refuse(all, -6, "link", x -> x.link(0, 1, 1, 1));
        refuse(all, -6, "folk", x -> x.folk(9, 1, 1, 0));
        refuse(all, -6, "train", x -> x.train(1, 999, 1, 1));
        refuse(all, -6, "ticks", x -> x.ticks(1));
        refuse(all, -6, "feed", x -> x.feed(1, 0x30));
        refuse(all, -6, "order", x -> x.order(1));
        refuse(all, -6, "order", x -> x.order(0));
        refuse(all, -6, "counted", x -> x.counted(0, 0, 1));
        refuse(all, -6, "option", x -> x.option(0, 4, 1));
        return all;
    }

    /** All that can be asked of a ground, a few questions to a list, so that no object has more than 512 calls. */
    private static List<List<Call>> questions(CrowdOut like) {
        List<List<Call>> all = new ArrayList<>();
        List<Call> whole = new ArrayList<>();
        for (int i = 0; i < 19; i++) {
            int what = i;
            if (i < 11 || i > 16) whole.add(x -> x.total(what));
        }
        for (int i = 0; i < 4; i++) {
            int what = i;
            whole.add(x -> x.design(300, 999, what));
            whole.add(x -> x.design(60, 120, what));
            whole.add(x -> x.worst(Math.min(2, what)));
        }
        all.add(whole);
        for (int i = 0; i < like.total(1); i++) all.add(ofArea(i));
        for (int i = 0; i < like.total(2); i++) all.add(ofLink(i));
        for (int i = 0; i < like.total(3); i++) all.add(ofFolk(i, like.total(1), like.total(2)));
        List<Call> given = new ArrayList<>();
        for (int i = 0; i <= like.total(10); i += 9) {
            int at = i;
            for (int w = 0; w < 5; w++) {
                int what = w;
                given.add(x -> x.given(at, what));
            }
        }
        all.add(given);
        all.add(changes());
        return all;
    }

    private static List<Call> ofArea(int a) {
        List<Call> some = new ArrayList<>();
        for (int w = 0; w < 8; w++) {
            int what = w;
            some.add(x -> x.areaOf(a, what));
        }
        for (int goal = 0; goal < 5; goal++) {
            int to = goal;
            some.add(x -> x.next(a, to, false));
            some.add(x -> x.walk(a, to, false));
            some.add(x -> x.next(a, to, true));
            some.add(x -> x.walk(a, to, true));
        }
        return some;
    }

    private static List<Call> ofLink(int l) {
        List<Call> some = new ArrayList<>();
        some.add(x -> x.wrong(l, 999));
        some.add(x -> x.wrong(l, 5));
        for (int t = 0; t < 60; t++) {
            int tick = t;
            some.add(x -> x.count(l, tick, 999));
        }
        for (int w = 0; w < 4; w++) {
            int what = w;
            some.add(x -> x.out(l, what));
            some.add(x -> x.out(-1, what));
        }
        // what it is set to is told only as it is changed
        for (int w = 0; w < 5; w++) {
            int what = w;
            some.add(x -> x.linkSet(l, what, LEAST[what]));
        }
        return some;
    }

    private static List<Call> ofFolk(int f, int areas, int links) {
        List<Call> some = new ArrayList<>();
        for (int a = 0; a < areas; a++) {
            int area = a;
            some.add(x -> x.folkOf(f, 0, area));
        }
        for (int l = 0; l < links; l++) {
            int link = l;
            some.add(x -> x.folkOf(f, 1, link));
        }
        for (int w = 2; w < 5; w++) {
            int what = w;
            some.add(x -> x.folkOf(f, what, 0));
        }
        some.add(x -> x.kin(f));
        return some;
    }

    /** What a change answers tells what was: numbers that come next, what stood, what was held, the tape itself. */
    private static List<Call> changes() {
        List<Call> some = new ArrayList<>();
        for (int i = 0; i < 12; i++) {
            int at = i;
            some.add(x -> x.holds(at));
            some.add(x -> x.stand(at, true));
        }
        for (int i = 0; i < 8; i++) {
            int at = i;
            some.add(x -> x.hold(at, true));
        }
        some.add(x -> x.set(0, 100));
        some.add(x -> x.set(1, 10));
        some.add(x -> x.set(2, 0));
        some.add(x -> x.counted(0, 0, 0));
        some.add(x -> x.option(0, 0, 0));
        some.add(x -> x.area(3, 5));
        some.add(x -> x.link(0, 1, 5, 1));
        some.add(x -> x.folk(0, 1, 1, 0));
        some.add(x -> x.train(2, 999, 1, 1));
        some.add(x -> x.feed(6, 0x30306f3a3d74L));
        some.add(x -> x.order(1));
        return some;
    }

    private static void changeNothing() {
        about("REFUSALS: nothing changes but how many there were");
        same("busy", RefusalsTest::busy, busyRefuses());
        same("full", RefusalsTest::full, fullRefuses());
        same("busy, later", () -> {
            CrowdOut x = busy();
            x.out(-1, 0);
            x.design(300, 999, 0);
            return x;
        }, busyRefuses());
    }

    /** Two of the same ground, one with the refused calls: they answer the same, then and later. */
    private static void same(String what, Supplier<CrowdOut> ground, List<Refused> refused) {
        int[] many = new int[7];
        for (Refused r : refused) many[-r.number]++;
        for (int later : new int[] {0, 1, 30}) {
            for (List<Call> some : questions(ground.get())) {
                CrowdOut one = ground.get();
                CrowdOut other = ground.get();
                for (Refused r : refused) due(what + ", " + r.told, r.call.on(other), r.number);
                for (int n = 1; n < 7; n++) due(what, other.total(10 + n), one.total(10 + n) + many[n]);
                if (later > 0) due(what, other.ticks(later), one.ticks(later));
                for (int i = 0; i < some.size(); i++)
                    due(what + ", question " + i, some.get(i).on(other), some.get(i).on(one));
            }
        }
    }

    private static void countEach() {
        about("REFUSALS: total(11) to total(16) tell how many there were");
        CrowdOut x = busy();
        int[] many = new int[7];
        for (Refused r : busyRefuses()) {
            due(r.told, r.call.on(x), r.number);
            many[-r.number]++;
            due(r.told, x.total(10 - r.number), many[-r.number]);
        }
        for (int n = 1; n < 7; n++) due(x.total(10 + n), many[n]);
        due(many[5], 0);
        // a FAULT, a -9 and a 0 are none
        x.order(1);
        x.given(99, 0);
        x.count(0, 0, 0);
        x.next(2, 2, false);
        x.walk(1, 4, true);
        x.areaOf(0, 7);
        x.folkOf(0, 4, 0);
        x.out(1, 0);
        x.total(18);
        x.total(-1);
        x.hold(1, true);
        x.stand(0, true);
        for (int n = 1; n < 7; n++) due(x.total(10 + n), many[n]);
    }
}
