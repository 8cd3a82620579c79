/**
 * Each sentence of the document that names a boundary: the last that is within it and the first that is beyond it, what
 * is empty and what is full. The sentences stand here as the document has them. RefusalsTest has the numbers that the
 * promises refuse.
 */
public final class BoundariesTest extends Check {
    public static void main(String[] args) {
        calls();
        ticks();
        areas();
        links();
        folk();
        trains();
        wide();
        far();
        hears();
        goals();
        press();
        tight();
        wayOn();
        heard();
        comes();
        cameInThisTick();
        room();
        kin();
        turned();
        push();
        fell();
        trainsCome();
        trainsTake();
        texts();
        units();
        acts();
        deep();
        faults();
        everyByte();
        whatThereIsNot();
        holdAnew();
        givenAtMost();
        heardLater();
        turn();
        tellings();
        known();
        off();
        emptying();
        emptyingBeyond();
        emptyingOver();
        emptyingAsItIs();
        emptyingBlocked();
        emptyingFell();
        emptyingPress();
        worst();
        options();
        design();
        designFewest();
        designBlocked();
        folkOf();
        given();
        orders();
        walks();
        places();
        totals();
        end();
    }

    // ---- I

    private static void calls() {
        about("An object is used for at most 512 calls");
        CrowdOut x = new CrowdOut();
        for (int i = 0; i < 511; i++) due(x.ticks(1), 0);
        due(x.total(0), 511);
    }

    private static void ticks() {
        about("TICKS go on from 0 (999 at most)");
        CrowdOut x = new CrowdOut();
        due(x.total(0), 0);
        due(x.ticks(999), 0);
        due(x.total(0), 999);
        due(x.ticks(1), -6);
        CrowdOut y = line(9, 1, 9, 1);
        y.ticks(997);
        y.folk(1, 5, 2, 0);
        due(y.ticks(3), -6);
        due(y.ticks(1), 0);
        due(y.ticks(2), -6);
        due(y.ticks(1), 5);
        due(y.folkOf(0, 4, 0), 999);
        due(y.ticks(1), -6);
        due(y.total(0), 999);
    }

    private static void areas() {
        about("AREAS have numbers from 0 on (20 at most)");
        CrowdOut x = new CrowdOut();
        for (int i = 0; i < 19; i++) due(x.area(0, 10), i);
        due(x.link(18, 19, 5, 1), -1);
        due(x.area(3, 10), 19);
        due(x.area(3, 10), -6);
        due(x.link(18, 19, 5, 1), 0);
        due(x.link(19, 20, 5, 1), -1);
        due(x.folk(18, 5, 19, 0), 0);
        due(x.folk(18, 5, 20, 0), -1);
        due(x.train(19, 2, 1, 1), 0);
        due(x.train(20, 2, 1, 1), -1);
        due(x.next(18, 19, false), 0);
        due(x.walk(18, 19, true), 1);
        due(x.next(20, 19, false), -1);
        due(x.walk(18, 20, false), -1);
        due(order(x, "w19=4&h18=0:o00"), 0);
        due(x.ticks(2), 5);
        due(x.holds(0), 1);
        due(x.folkOf(0, 0, 19), 0);
        due(x.folkOf(0, 0, 20), -1);
        due(x.areaOf(19, 0), 3);
        due(x.areaOf(20, 0), -1);
        due(x.total(8), 1);
    }

    private static void links() {
        about("LINKS have numbers from 0 on (30 at most)");
        CrowdOut x = line(9, 1, 9, 1);
        for (int i = 2; i < 29; i++) due(x.link(1, 0, 1, 1), i);
        due(x.linkSet(29, 0, 0), -1);
        due(x.link(0, 2, 3, 1), 29);
        due(x.link(0, 2, 3, 1), -6);
        x.folk(0, 4, 2, 0);
        due(x.next(0, 2, false), 29);
        due(order(x, "l29=3:s29;s30"), 0);
        due(x.ticks(1), 0);
        due(x.holds(0), 1);
        due(x.folkOf(0, 1, 29), 3);
        due(x.folkOf(0, 1, 30), -1);
        due(x.counted(29, 1, 5), 1);
        due(x.counted(30, 1, 5), -1);
        due(x.count(29, 1, 1), 5);
        due(x.wrong(29, 1), 2);
        due(x.wrong(30, 1), -1);
        due(x.option(29, 4, 9), 0);
        due(x.option(30, 4, 9), -1);
        // 3 are on it; the fourth goes by links 0 and 1
        due(x.out(29, 0), 4);
        due(x.out(30, 0), -1);
        x.ticks(1);
        due(x.linkSet(29, 0, 1), 0);
        due(x.linkSet(30, 0, 1), -1);
    }

    private static void folk() {
        about("FOLK have numbers from 0 on (24 at most)");
        CrowdOut x = line(99, 1, 99, 1);
        for (int i = 0; i < 23; i++) due(x.folk(0, 1, 2, 0), i);
        due(x.kin(23), -1);
        due(x.folk(0, 2, 2, 0), 23);
        due(x.folk(0, 1, 2, 0), -6);
        due(x.kin(23), 1);
        due(x.kin(24), -1);
        due(x.folkOf(23, 3, 0), 2);
        due(x.folkOf(24, 3, 0), -1);
        order(x, "t=1:b23;b24");
        due(x.ticks(3), 0);
        due(x.folkOf(23, 1, 0), 2);
        due(x.folkOf(22, 1, 1), 1);
        due(x.ticks(1), 23);
        due(x.folkOf(23, 0, 0), 2);
    }

    private static void trains() {
        about("TRAINS have numbers from 0 on (8 at most)");
        CrowdOut x = line(9, 1, 99, 1);
        for (int i = 0; i < 7; i++) due(x.train(2, 900, 1, 1), i);
        due(x.hold(7, true), -1);
        due(x.train(2, 2, 1, 3), 7);
        due(x.train(2, 2, 1, 3), -6);
        x.folk(1, 9, 2, 0);
        order(x, "t=2:k07;k08");
        x.ticks(2);
        due(x.total(8), 3);
        x.ticks(3);
        due(x.total(8), 3);
        due(x.hold(8, false), -1);
        due(x.hold(7, false), 1);
        x.ticks(1);
        due(x.total(8), 6);
    }

    private static void wide() {
        about("WIDE (HEADS a TICK each way together)");
        int[][] there = {{10, 4, 6, 6}, {10, 4, 7, 6}, {10, 10, 1, 0}, {10, 11, 1, 0}, {1, 1, 1, 0}, {999, 998, 2, 1}};
        for (int[] t : there) {
            CrowdOut x = new CrowdOut();
            x.area(3, 2000);
            x.area(3, 2000);
            x.link(0, 1, t[0], 1);
            x.folk(0, t[1], 1, 0);
            x.folk(1, t[2], 0, 0);
            x.ticks(1);
            due(x.folkOf(0, 1, 0), Math.min(t[0], t[1]));
            due(x.folkOf(1, 1, 0), t[3]);
            // the next tick has the whole of it again
            x.ticks(1);
            due(x.folkOf(0, 0, 0), 0);
        }
        CrowdOut y = new CrowdOut();
        y.area(0, 2000);
        y.area(3, 1);
        y.link(0, 1, 999, 1);
        y.folk(0, 1000, 1, 0);
        y.ticks(1);
        due(y.folkOf(0, 0, 0), 1);
        due(y.ticks(1), 999);
        due(y.ticks(1), 1);
    }

    private static void far() {
        about("Who is on the way on a LINK and has come FAR TICKS on it comes to the AREA at its end");
        for (int far = 1; far <= 9; far++)
            for (int turned = 0; turned < 2; turned++) {
                CrowdOut x = new CrowdOut();
                x.area(turned == 0 ? 0 : 3, 10);
                x.area(turned == 0 ? 3 : 0, 10);
                due(x.link(0, 1, 9, far), 0);
                x.folk(turned, 9, 1 - turned, 0);
                due(x.walk(turned, 1 - turned, false), far);
                due(x.out(-1, 0), far + 1);
                due(x.ticks(far), 0);
                due(x.folkOf(0, 1, 0), 9);
                due(x.out(-1, 0), 1);
                due(x.ticks(1), 9);
                due(x.folkOf(0, 1, 0), 0);
                due(x.folkOf(0, 4, 0), far + 1);
            }
    }

    private static void hears() {
        about("HEARS (0 .. 20 TICKS; 0 at first)");
        CrowdOut x = line(1, 1, 1, 1);
        due(x.linkSet(0, 3, 20), 0);
        due(x.linkSet(1, 3, 21), -6);
        due(x.linkSet(1, 3, -1), -4);
        due(x.linkSet(1, 3, 0), 0);
        about("OPEN, SHUT are heard HEARS of the LINK and 1 TICKS later");
        for (int hears : new int[] {0, 1, 19, 20}) {
            CrowdOut y = line(9, 1, 9, 1);
            y.linkSet(0, 3, hears);
            y.linkSet(1, 3, hears);
            y.linkSet(1, 0, 0);
            order(y, "t=1:s00;o01");
            y.ticks(1 + hears);
            due(y.next(1, 2, false), -9);
            due(y.linkSet(0, 0, 1), 1);
            y.ticks(1);
            due(y.next(1, 2, false), 1);
            due(y.linkSet(0, 0, 1), 0);
            due(y.given(0, 4), 2 + hears);
            due(y.given(1, 4), 2 + hears);
        }
    }

    private static void goals() {
        about("a GOAL (an AREA of KIND 3)");
        for (int kind = 0; kind < 4; kind++) {
            CrowdOut x = new CrowdOut();
            x.area(0, 10);
            due(x.area(kind, 10), 1);
            x.link(0, 1, 1, 1);
            due(x.folk(0, 1, 1, 0), kind == 3 ? 0 : -1);
            due(x.train(1, 1, 1, 1), kind == 3 ? 0 : -1);
            due(x.next(0, 1, false), kind == 3 ? 0 : -1);
            due(x.walk(0, 1, false), kind == 3 ? 1 : -1);
        }
    }

    private static void press() {
        about("PRESS: 100 times HEADS by ROOM, cut (GOALS: 0)");
        int[][] of = {{3, 1, 33}, {3, 2, 66}, {3, 3, 100}, {1, 1, 100}, {20000, 199, 0}, {20000, 200, 1}, {20000, 9999, 49},
            {101, 100, 99}, {7, 0, 0}};
        for (int[] o : of) {
            CrowdOut x = new CrowdOut();
            x.area(2, o[0]);
            x.area(3, 1);
            if (o[1] > 0) x.folk(0, o[1], 1, 0);
            due(x.areaOf(0, 3), o[2]);
            order(x, "p00=" + o[2] + ":o00");
            due(x.holds(0), 1);
            x.ticks(1);
            due(x.areaOf(0, 6), o[2]);
        }
        CrowdOut full = new CrowdOut();
        full.area(0, 20000);
        full.area(3, 1);
        full.folk(0, 9999, 1, 0);
        full.folk(0, 9999, 1, 0);
        full.folk(0, 1, 1, 0);
        due(full.areaOf(0, 3), 99);
        full.folk(0, 1, 1, 0);
        due(full.areaOf(0, 3), 100);
        CrowdOut goal = new CrowdOut();
        goal.area(3, 1);
        goal.area(3, 1);
        goal.folk(0, 1, 1, 0);
        goal.ticks(1);
        due(goal.areaOf(0, 2), 1);
        due(goal.areaOf(0, 3), 0);
        due(goal.areaOf(0, 6), 0);
    }

    /** ROOM 100, and so many heads in it who can not leave; asked ahead of the tick on which they come, TICK 2. */
    private static CrowdOut pressed(int heads, int room) {
        CrowdOut x = new CrowdOut();
        x.area(0, 1000);
        x.area(1, room);
        x.area(3, 1);
        x.link(0, 1, 999, 1);
        x.link(1, 2, 999, 1);
        x.set(0, 300);
        x.folk(0, heads, 2, 0);
        x.ticks(1);
        x.linkSet(1, 0, 0);
        return x;
    }

    private static void tight() {
        about("if PRESS of the AREA where it ends is TIGHT (10 .. 300; 100 at first) or more, LONG (0 .. 50; 5 at first) more");
        for (int heads : new int[] {9, 10, 11, 99, 100, 101, 299, 300}) {
            CrowdOut x = pressed(heads, 100);
            x.ticks(1);
            due(x.areaOf(1, 3), heads);
            x.linkSet(1, 0, 1);
            due(x.walk(0, 2, false), heads >= 100 ? 7 : 2);
            for (int tight : new int[] {10, 100, 300}) {
                x.set(1, tight);
                x.set(2, 5);
                due(x.walk(0, 2, false), heads >= tight ? 7 : 2);
                x.set(2, 50);
                due(x.walk(0, 2, false), heads >= tight ? 52 : 2);
                x.set(2, 0);
                due(x.walk(0, 2, false), 2);
                due(x.walk(1, 2, false), 1);
            }
        }
        // a goal is never tight, however many are in it
        CrowdOut y = new CrowdOut();
        y.area(3, 1);
        y.area(3, 9);
        y.link(0, 1, 1, 1);
        y.folk(1, 9, 0, 0);
        y.set(1, 10);
        due(y.walk(0, 1, false), 1);
    }

    private static void wayOn() {
        about("the least TIME together; of several the LINK of the least number first");
        // by link 0 it takes 1 + 3, by link 1 far: 3 is sooner, 4 as soon, 5 later
        for (int far = 3; far <= 5; far++) {
            CrowdOut x = new CrowdOut();
            x.area(0, 9);
            x.area(1, 9);
            x.area(3, 9);
            x.link(0, 1, 1, 1);
            x.link(0, 2, 1, far);
            x.link(1, 2, 1, 3);
            due(x.next(0, 2, false), far < 4 ? 1 : 0);
            due(x.walk(0, 2, false), Math.min(4, far));
            CrowdOut y = new CrowdOut();
            y.area(0, 9);
            y.area(1, 9);
            y.area(3, 9);
            y.link(0, 2, 1, far);
            y.link(0, 1, 1, 1);
            y.link(1, 2, 1, 3);
            due(y.next(0, 2, false), far < 5 ? 0 : 1);
        }
        // the longest way that there can be: 19 links of 9, tight on all but the goal
        CrowdOut z = new CrowdOut();
        for (int i = 0; i < 20; i++) z.area(i == 19 ? 3 : 0, 1);
        for (int i = 0; i < 19; i++) z.link(i, i + 1, 1, 9);
        due(z.walk(0, 19, false), 19 * 9);
        for (int i = 1; i < 19; i++) z.folk(i, 1, 19, 0);
        z.set(2, 50);
        due(z.walk(0, 19, false), 19 * 9 + 18 * 50);
        due(z.next(0, 19, false), 0);
        z.linkSet(18, 1, 2);
        due(z.walk(0, 19, false), -9);
        due(z.next(0, 19, true), -9);
        about("(At the GOAL itself: none is wanted.)");
        due(z.next(19, 19, false), -9);
        due(z.walk(19, 19, false), 0);
        for (int i = 0; i < 19; i++) z.linkSet(i, 0, 0);
        due(z.next(19, 19, true), -9);
        due(z.walk(19, 19, true), 0);
    }

    // ---- II

    private static void heard() {
        about("(1) Orders that are heard on it are done, in the order in which they were GIVEN");
        String[][] orders = {{"t=1:s00;o00", ""}, {"t=1:o00;s00", ""}, {"t=1:s00", "t=1:o00"}, {"t=1:o00", "t=1:s00"}};
        int[] open = {1, 0, 1, 0};
        for (int i = 0; i < 4; i++) {
            CrowdOut x = line(1, 1, 1, 1);
            order(x, orders[i][0]);
            if (!orders[i][1].isEmpty()) order(x, orders[i][1]);
            x.ticks(2);
            due(x.linkSet(0, 0, 1), open[i]);
        }
        // given on 1 and heard on 5, given on 4 and heard on 5; and heard on 6, behind what was given later
        for (int later = 3; later <= 4; later++) {
            CrowdOut x = line(1, 1, 1, 1);
            x.linkSet(0, 3, later);
            order(x, "t=1:s00");
            order(x, "t=4:o00");
            x.ticks(1);
            x.linkSet(0, 3, 0);
            x.ticks(4);
            due(x.given(0, 4), 2 + later);
            due(x.given(1, 4), 5);
            due(x.next(0, 2, false), 0);
            x.ticks(1);
            due(x.next(0, 2, false), later == 3 ? 0 : -9);
        }
    }

    private static void comes() {
        about("What comes to the GOAL of FOLK that is not TURNED is OUT (it waits there for TRAINS: III), else it is in the AREA");
        CrowdOut x = new CrowdOut();
        x.area(0, 9);
        x.area(3, 1);
        x.area(3, 1);
        x.link(0, 1, 9, 1);
        x.link(1, 2, 9, 1);
        x.folk(0, 4, 2, 0);
        x.folk(0, 3, 1, 0);
        x.train(1, 1, 1, 99);
        due(x.ticks(2), 3);
        // folk 0 goes through the other goal: it is in it, above its ROOM, and no train takes it
        due(x.areaOf(1, 2), 4);
        due(x.areaOf(1, 3), 0);
        due(x.folkOf(0, 0, 1), 4);
        due(x.folkOf(0, 2, 0), 0);
        due(x.folkOf(1, 0, 1), 0);
        due(x.total(8), 3);
        due(x.ticks(2), 4);
        due(x.total(8), 3);
        due(x.total(4), 0);
        due(x.total(5), 7);
    }

    private static void cameInThisTick() {
        about("not those that came in (2) of this TICK");
        CrowdOut x = line(5, 1, 9, 1);
        x.folk(0, 5, 2, 0);
        x.folk(1, 3, 2, 0);
        x.ticks(1);
        due(x.folkOf(1, 1, 1), 3);
        x.ticks(1);
        due(x.folkOf(0, 0, 1), 5);
        due(x.folkOf(0, 1, 1), 0);
        x.ticks(1);
        due(x.folkOf(0, 1, 1), 5);
        // of the same folk some came before, and they go
        CrowdOut y = line(2, 1, 1, 1);
        y.folk(0, 6, 2, 0);
        y.ticks(3);
        due(y.folkOf(0, 0, 1), 3);
        due(y.folkOf(0, 1, 1), 1);
        // those who came in this tick are behind those who wait, also for the next area of the same tick
        CrowdOut z = new CrowdOut();
        z.area(3, 9);
        z.area(1, 9);
        z.area(0, 9);
        z.link(2, 1, 9, 1);
        z.link(1, 0, 9, 1);
        z.folk(2, 4, 0, 0);
        due(z.ticks(2), 0);
        due(z.folkOf(0, 0, 1), 4);
        due(z.ticks(1), 0);
        due(z.ticks(1), 4);
    }

    private static void room() {
        about("its ROOM by 100 times PACE (100 .. 300; 150 at first) hundredths, cut, less its HEADS and those on the way to it");
        int[][] of = {{1, 100, 1}, {1, 150, 1}, {1, 199, 1}, {1, 200, 2}, {1, 300, 3}, {3, 133, 3}, {3, 134, 4}, {7, 150, 10},
            {33, 100, 33}, {33, 101, 33}, {33, 300, 99}};
        for (int[] o : of) {
            CrowdOut x = new CrowdOut();
            x.area(0, 200);
            x.area(1, o[0]);
            x.area(3, 1);
            x.link(0, 1, 999, 3);
            x.link(1, 2, 999, 1);
            if (o[1] != 150) x.set(0, o[1]);
            x.folk(0, 200, 2, 0);
            x.ticks(1);
            due(x.folkOf(0, 1, 0), o[2]);
            x.ticks(2);
            due(x.folkOf(0, 1, 0), o[2]);
            x.ticks(1);
            due(x.areaOf(1, 2), o[2]);
            due(x.folkOf(0, 1, 0), 0);
        }
        // 75 in all: 50 in it, 24 or 25 on the way to it
        for (int coming = 24; coming <= 26; coming++) {
            CrowdOut x = line(99, 5, 1, 1);
            x.folk(0, coming, 2, 0);
            x.folk(0, 30, 2, 0);
            x.folk(1, 50, 2, 0);
            x.ticks(1);
            due(x.folkOf(0, 1, 0), Math.min(25, coming));
            due(x.folkOf(1, 1, 0), Math.max(0, 25 - coming));
        }
        about("(GOALS: no bound)");
        CrowdOut y = new CrowdOut();
        y.area(0, 2000);
        y.area(3, 1);
        y.area(3, 1);
        y.link(0, 1, 999, 1);
        y.link(1, 2, 999, 1);
        y.folk(0, 999, 2, 0);
        y.folk(0, 999, 2, 1);
        y.ticks(2);
        due(y.areaOf(1, 2), 999);
        due(y.ticks(1), 0);
        due(y.areaOf(1, 2), 999);
        due(y.folkOf(1, 0, 1), 999);
        due(y.ticks(2), 1998);
    }

    private static void kin() {
        about("KIN: only if all of its HEADS there fit so");
        for (int kin = 5; kin <= 7; kin++) {
            CrowdOut x = line(10, 1, 10, 1);
            x.folk(0, 4, 2, 0);
            x.folk(0, kin, 2, 1);
            x.ticks(1);
            due(x.folkOf(1, 1, 0), kin <= 6 ? kin : 0);
        }
        about("but if they are more than WIDE and nothing was taken of WIDE in this TICK they may go if room is for all");
        for (int kin = 9; kin <= 12; kin++)
            for (int taken = 0; taken <= 1; taken++) {
                CrowdOut x = line(10, 1, 10, 1);
                if (taken == 1) x.folk(0, 1, 2, 0);
                x.folk(0, kin, 2, 1);
                x.folk(0, 1, 2, 0);
                x.ticks(1);
                boolean goes = taken == 0 || kin + taken <= 10;
                due(x.folkOf(taken, 1, 0), goes ? kin : 0);
                due(x.folkOf(taken + 1, 1, 0), goes && kin + taken >= 10 ? 0 : 1);
                x.ticks(1);
                due(x.folkOf(taken, 0, 0), 0);
            }
        // taken of WIDE the other way counts, too
        CrowdOut y = new CrowdOut();
        y.area(3, 50);
        y.area(3, 50);
        y.link(0, 1, 5, 1);
        y.folk(0, 1, 1, 0);
        y.folk(1, 6, 0, 1);
        y.ticks(1);
        due(y.folkOf(1, 1, 0), 0);
        y.ticks(1);
        due(y.folkOf(1, 1, 0), 6);
        // room for 75 less those in it: for kin that fit WIDE, and for kin that are more
        for (int wide : new int[] {99, 45})
            for (int there = 24; there <= 26; there++) {
                CrowdOut x = line(wide, 1, 1, 1);
                x.folk(0, 50, 2, 1);
                x.folk(1, there, 2, 0);
                x.ticks(1);
                due(x.folkOf(0, 1, 0), there <= 25 ? 50 : 0);
                // one of those in it has left
                x.ticks(1);
                due(x.folkOf(0, 0, 0), 0);
            }
    }

    private static void turned() {
        about("FOLK that is TURNED goes to the AREA in which it was at first (HOME) in place of its GOAL, and stays there");
        CrowdOut x = line(5, 1, 5, 1);
        x.folk(0, 12, 2, 0);
        order(x, "t=3:b00");
        x.ticks(4);
        // 5 came to the goal on tick 4, as turned ones: they are in its area, not out
        due(x.folkOf(0, 2, 0), 0);
        due(x.folkOf(0, 0, 2), 5);
        x.ticks(20);
        due(x.folkOf(0, 0, 0), 12);
        due(x.kin(0), 1);
        x.ticks(20);
        due(x.folkOf(0, 0, 0), 12);
        // some are out, and stay so; the others are at home
        CrowdOut y = line(5, 1, 5, 1);
        y.folk(0, 12, 2, 0);
        order(y, "t=4:b00");
        due(y.ticks(4), 5);
        due(y.ticks(30), 0);
        due(y.folkOf(0, 0, 0), 7);
        due(y.folkOf(0, 2, 0), 5);
        due(y.folkOf(0, 4, 0), -9);
    }

    private static void push() {
        about("PUSH of an AREA: TICKS on end, this one too, as which ended its PRESS was 120 or more (0 else)");
        for (int heads = 119; heads <= 121; heads++) {
            CrowdOut x = pressed(heads, 100);
            for (int i = 1; i <= 5; i++) {
                x.ticks(1);
                due(x.areaOf(1, 4), heads >= 120 ? i : 0);
            }
        }
        // 1199 of 1000 is 119 (cut)
        CrowdOut cut = new CrowdOut();
        cut.area(0, 2000);
        cut.area(1, 1000);
        cut.area(3, 1);
        cut.link(0, 1, 600, 1);
        cut.link(1, 2, 1, 9);
        cut.area(0, 2000);
        cut.link(3, 1, 600, 1);
        cut.folk(0, 600, 2, 0);
        cut.folk(3, 600, 2, 0);
        cut.ticks(2);
        due(cut.areaOf(1, 4), 1);
        cut.ticks(1);
        due(cut.areaOf(1, 2), 1199);
        due(cut.areaOf(1, 3), 119);
        due(cut.areaOf(1, 4), 0);
        about("If PUSH is 3 or more FELL is more");
        CrowdOut x = pressed(120, 100);
        x.ticks(2);
        due(x.areaOf(1, 4), 2);
        due(x.areaOf(1, 5), 0);
        due(x.areaOf(1, 7), -9);
        x.linkSet(1, 4, 1);
        x.linkSet(1, 0, 1);
        x.folk(0, 1, 2, 0);
        // one leaves: 119, and PUSH begins again as another comes
        x.ticks(1);
        due(x.areaOf(1, 4), 0);
        x.linkSet(1, 0, 0);
        for (int i = 1; i <= 4; i++) {
            x.ticks(1);
            due(x.areaOf(1, 4), i);
            due(x.areaOf(1, 5), Math.max(0, i - 2));
        }
        due(x.areaOf(1, 7), 7);
    }

    private static void fell() {
        about("FELL is more by (PRESS less 110) by 10, cut");
        int[][] of = {{119, 0}, {120, 1}, {129, 1}, {130, 2}, {139, 2}, {140, 3}, {299, 18}, {300, 19}};
        for (int[] o : of) {
            CrowdOut x = pressed(o[0], 100);
            x.ticks(2);
            due(x.areaOf(1, 5), 0);
            x.ticks(1);
            due(x.areaOf(1, 5), o[1]);
            due(x.areaOf(1, 7), o[1] > 0 ? 4 : -9);
            x.ticks(1);
            due(x.areaOf(1, 5), 2 * o[1]);
            due(x.areaOf(1, 7), o[1] > 0 ? 4 : -9);
            due(x.total(6), 2 * o[1]);
        }
        about("HEADS at most less those that fell there before, 0 at least");
        // 30 of 10: 19, then the 11 that are left, then none
        CrowdOut x = pressed(30, 10);
        int[] all = {0, 0, 19, 30, 30, 30};
        for (int i = 0; i < 6; i++) {
            x.ticks(1);
            due(x.areaOf(1, 5), all[i]);
        }
        // fewer are there than fell: none falls, and none rises
        x.linkSet(1, 4, 2);
        x.linkSet(1, 0, 1);
        for (int i = 1; i <= 8; i++) {
            x.ticks(1);
            due(x.areaOf(1, 2), 30 - 2 * i);
            due(x.areaOf(1, 5), 30);
        }
        about("(fallen HEADS stay HEADS and go on)");
        due(x.total(4), 16);
        x.ticks(20);
        due(x.total(5), 30);
        due(x.areaOf(1, 5), 30);
        due(x.areaOf(1, 7), 4);
    }

    // ---- III

    private static void trainsCome() {
        about("the FIRST TICK, EVERY so many then");
        // 20 wait from tick 2 on
        int[][] of = {{3, 1}, {3, 2}, {3, 200}, {900, 1}, {999, 200}, {799, 200}};
        for (int[] o : of) {
            CrowdOut x = line(1, 1, 20, 1);
            x.folk(1, 20, 2, 0);
            x.train(2, o[0], o[1], 1);
            int took = 0;
            for (int tick : new int[] {2, 3, 4, 5, 202, 203, 204, 798, 799, 800, 899, 900, 901, 998, 999}) {
                x.ticks(tick - x.total(0));
                took = tick < o[0] ? 0 : 1 + (tick - o[0]) / o[1];
                due(o[0] + " " + o[1] + ", TICK " + tick, x.total(8), Math.min(20, took));
            }
        }
        about("FIRST ahead of TICK");
        CrowdOut y = line(1, 1, 20, 1);
        y.folk(1, 20, 2, 0);
        y.ticks(5);
        due(y.train(2, 4, 3, 1), -4);
        due(y.train(2, 5, 3, 1), 0);
        // its first tick has ended: it comes on 8
        due(y.total(8), 0);
        y.ticks(2);
        due(y.total(8), 0);
        y.ticks(1);
        due(y.total(8), 1);
        due(y.train(2, 9, 200, 2), 1);
        y.ticks(1);
        due(y.total(8), 3);
    }

    private static void trainsTake() {
        about("TAKES HEADS at most of those that are OUT and wait there (FOLK together) are gone");
        for (int takes : new int[] {1, 8, 9, 10, 9999}) {
            CrowdOut x = line(1, 1, 20, 1);
            x.folk(1, 4, 2, 0);
            x.folk(1, 5, 2, 2);
            x.train(2, 1, 1, takes);
            order(x, "w02>0:o00");
            x.ticks(1);
            due(x.total(8), 0);
            // on the tick on which they come out they can be gone
            x.ticks(1);
            due(x.total(8), Math.min(9, takes));
            due(x.holds(0), takes < 9 ? 1 : 0);
            due(x.total(5), 9);
            x.ticks(12);
            due(x.total(8), 9);
        }
        about("As TRAINS come, by numbers, on a TICK that is theirs, if not HELD");
        CrowdOut x = line(1, 1, 20, 1);
        x.folk(1, 9, 2, 0);
        x.train(2, 2, 5, 6);
        x.train(2, 2, 200, 4);
        x.train(2, 7, 5, 1);
        x.ticks(2);
        due(x.total(8), 9);
        CrowdOut y = line(1, 1, 20, 1);
        y.folk(1, 9, 2, 0);
        y.train(2, 2, 5, 6);
        y.hold(0, true);
        y.ticks(2);
        due(y.total(8), 0);
        y.hold(0, false);
        y.ticks(4);
        due(y.total(8), 0);
        y.ticks(1);
        due(y.total(8), 6);
    }

    // ---- IV

    private static CrowdOut bare() {
        return new CrowdOut();
    }

    private static void texts() {
        about("ORDERS are TEXTS (120 bytes at most)");
        CrowdOut x = bare();
        due(order(x, ""), -20);
        due(order(x, "t=1:o00" + ";o00".repeat(28)), 0);
        StringBuilder full = new StringBuilder("t=1+1:o00" + ";o00".repeat(27)).insert(2, "000");
        due(full.length(), 120);
        due(order(x, full.toString()), 1);
        // one byte more is not fed, and so the text is the first 120
        tape(x, full.toString());
        due(x.feed(1, ';'), -6);
        due(x.total(17), 120);
        due(x.order(1), 2);
        due(order(x, full.substring(0, 119)), -20 - 119);
        due(order(x, full.substring(0, 116) + ";;"), -20 - 117);
        due(order(x, "t=1:o00" + ";o00".repeat(28) + ";"), -20 - 120);
        // 29 acts of the first on tick 1; 28 of the second and of the third on tick 2
        x.ticks(1);
        due(x.total(10), 29);
        x.ticks(1);
        due(x.total(10), 29 + 28 + 28);
        due(x.holds(1), 1);
        due(x.holds(2), 1);
        CrowdOut y = bare();
        due(order(y, "t" + "+1".repeat(55) + "=1:o00"), 0);
        due(order(y, "t" + "+1".repeat(55) + "=55:o00"), 1);
        due(y.holds(0), 0);
        due(y.holds(1), 1);
        due(order(y, "0" + "-99999".repeat(18) + "<0:o00"), 2);
        due(y.holds(2), 1);
    }

    private static void units() {
        about("UNIT: a number of 1 to 5 digits");
        String[] numbers = {"", "0", "00000", "99999", "000000", "100000"};
        int[] places = {-20, 0, 1, 2, -25, -25};
        CrowdOut x = bare();
        for (int i = 0; i < numbers.length; i++) {
            due(order(x, numbers[i] + "<t:o00"), places[i]);
            due(order(bare(), "t<" + numbers[i] + ":o00"), i == 0 ? -22 : places[i] < 0 ? -27 : 0);
        }
        due(order(x, "99999-99998=1:o00"), 3);
        due(x.holds(3), 1);
        about("p PRESS or h HEADS or u PUSH and the two digits of an AREA, l .. and two digits of a LINK, w ..");
        for (char c : "phulw".toCharArray()) {
            due(order(bare(), c + "=0:o00"), -21);
            due(order(bare(), c + "0=0:o00"), -22);
            due(order(bare(), c + "00=0:o00"), 0);
            due(order(bare(), c + "99=0:o00"), 0);
            due(order(bare(), c + "000=0:o00"), -23);
            due(order(bare(), "0=" + c), -23);
            due(order(bare(), "0=" + c + "0"), -24);
            due(order(bare(), "0=" + c + "00"), -25);
        }
        due(order(bare(), "t0=0:o00"), -21);
        about("SUM SIGN SUM (SIGN one of \"<\", \"=\", \">\")");
        String[] tests = {"t<1", "t<0", "t=0", "t=1", "t>0", "0-1<t", "0-1=t", "1>t"};
        int[] worth = {1, 0, 1, 0, 0, 1, 0, 1};
        for (int i = 0; i < tests.length; i++) {
            CrowdOut y = bare();
            due(order(y, tests[i] + ":o00"), 0);
            due(y.holds(0), worth[i]);
        }
    }

    private static void acts() {
        about("ACT: o (OPEN) or s (SHUT) and two digits of a LINK, k (HOLD) or g (GO) .., b (TURN) ..");
        for (int i = 0; i < 5; i++) {
            char c = "oskgb".charAt(i);
            due(order(bare(), "t=1:" + c), -25);
            due(order(bare(), "t=1:" + c + "0"), -26);
            due(order(bare(), "t=1:" + c + "000"), -27);
            due(order(bare(), "t=1:" + c + "0;"), -26);
            CrowdOut x = bare();
            due(order(x, "t=1:" + c + "00;" + c + "99"), 0);
            x.ticks(1);
            due(x.total(10), 2);
            due(x.given(0, 2), 1 + i);
            due(x.given(0, 3), 0);
            due(x.given(1, 2), 1 + i);
            due(x.given(1, 3), 99);
        }
        about("ORS \":\" ACT { \";\" ACT }");
        due(order(bare(), "t=1"), -23);
        due(order(bare(), "t=1:"), -24);
        due(order(bare(), "t=1:;o00"), -24);
        due(order(bare(), "t=1:o00;"), -28);
        due(order(bare(), "t=1:o00;;o00"), -28);
        due(order(bare(), "t=1:o00o00"), -27);
        due(order(bare(), "t=1::o00"), -24);
        due(order(bare(), "t=1;o00"), -23);
    }

    private static void deep() {
        about("\"(\" and \"!\" are 4 deep at most, together");
        for (int bits = 0; bits < 32; bits++)
            for (int n = 0; n <= 5; n++) {
                StringBuilder open = new StringBuilder();
                StringBuilder shut = new StringBuilder();
                for (int i = 0; i < n; i++) {
                    boolean not = (bits >> i & 1) == 1;
                    open.append(not ? '!' : '(');
                    if (!not) shut.append(')');
                }
                due(order(bare(), open + "t=1" + shut + ":o00"), n <= 4 ? 0 : -24);
                // behind it all are shut again
                due(order(bare(), open + "t=1" + shut + "&" + open + "t=1" + shut + ":o00"), n <= 4 ? 0 : -24);
                due(order(bare(), "t=1|" + open + "t=1" + shut + ":o00"), n <= 4 ? 0 : -28);
            }
        due(order(bare(), "((((t=1)&(t=1)))):o00"), 0);
        due(order(bare(), "((((t=1&(t=1))))):o00"), -20 - 8);
        due(order(bare(), "(((!t=1&!t=1))):o00"), 0);
        due(order(bare(), "(((!t=1&!!t=1))):o00"), -20 - 9);
        due(order(bare(), "(((t=1)))&((((t=1)))):o00"), 0);
        due(order(bare(), "!(!(t=1))|!(!(!t=1)):o00"), -20 - 14);
        CrowdOut x = bare();
        order(x, "!!!!t=0:o00");
        order(x, "!!!t=0:o00");
        order(x, "!(t=0)&t=1|((t=0)):o00");
        due(x.holds(0), 1);
        due(x.holds(1), 0);
        due(x.holds(2), 1);
    }

    private static void faults() {
        about("FAULT: the place of the first byte that can not stand (the end, if something lacks; of a fifth \"(\" or \"!\" its own)");
        String whole = "!(t=1&p01>12345-h02|u03<l04+w05):o06;s07;k08;g09;b10";
        for (int i = 0; i <= whole.length(); i++) {
            CrowdOut x = bare();
            int acts = i - whole.indexOf(':') - 1;
            boolean stands = acts > 0 && acts % 4 == 3;
            due(whole.substring(0, i), order(x, whole.substring(0, i)), stands ? 0 : -20 - i);
            // a byte that never stands is the fault wherever it is
            due(order(bare(), whole.substring(0, i) + "x" + whole.substring(i)), -20 - i);
        }
        due(order(bare(), "((((("), -24);
        due(order(bare(), "((((!"), -24);
        due(order(bare(), "((((x"), -24);
        due(order(bare(), "(((("), -24);
        due(order(bare(), "()"), -21);
        due(order(bare(), "!"), -21);
        due(order(bare(), "!)"), -21);
        // the first of several
        due(order(bare(), "x=x:x"), -20);
        due(order(bare(), "t=x:x"), -22);
        due(order(bare(), "t=1:x;x"), -24);
        about("or, if it has a FAULT, -20 less its place (nothing is counted; THE TAPE has none, too)");
        CrowdOut x = bare();
        due(order(x, "t=1:o00x"), -27);
        due(x.total(17), 0);
        due(x.total(9), 0);
        for (int i = 11; i < 17; i++) due(x.total(i), 0);
        due(x.order(0), -20);
        due(order(x, "t=1:o00"), 0);
    }

    private static void everyByte() {
        about("every byte behind every beginning, against PlainCrowd");
        String whole = "!(!t=1&(p01>12345-h02|u03<l04+w05)):o06;s07;k08";
        for (int i = 0; i <= whole.length(); i++) {
            CrowdOut x = bare();
            for (int b = 0; b < 256; b++) {
                if (b % 20 == 0) x = bare();
                String text = whole.substring(0, i) + (char) b;
                int fault = PlainCrowd.fault(text);
                int got = order(x, text);
                due(text, got < 0 ? got : 0, fault < 0 ? 0 : -20 - fault);
                if (got == 11) x = bare();
            }
        }
    }

    private static void whatThereIsNot() {
        about("Numbers of what there is not are worth 0; ACTS of these do nothing");
        CrowdOut x = line(9, 1, 9, 1);
        x.folk(1, 50, 2, 0);
        order(x, "h01=50&p01=100:o00");
        order(x, "h03=0&p03=0&u03=0&w03=0:o00");
        order(x, "l02=0&l01=0:o00");
        order(x, "h99=0&l99=0&w99=0&u99=0&p99=0:o00");
        for (int i = 0; i < 4; i++) due(x.holds(i), 1);
        order(x, "t=0:o02;s02;k00;g00;b01;o99;s99;k99;g99;b99");
        x.stand(4, false);
        x.stand(4, true);
        order(x, "t=1:o02;s02;k00;g00;b01;o99;s99;k99;g99;b99");
        x.linkSet(0, 3, 20);
        for (int i = 0; i < 4; i++) x.stand(i, false);
        x.ticks(1);
        due(x.total(10), 10);
        for (int i = 0; i < 10; i++) due(x.given(i, 4), 2);
        x.ticks(1);
        due(x.total(2), 2);
        due(x.total(7), 0);
        due(x.total(3), 1);
        due(x.linkSet(0, 0, 1), 1);
        due(x.linkSet(1, 0, 1), 1);
        // what comes later is as new
        due(x.link(0, 1, 5, 1), 2);
        due(x.linkSet(2, 0, 1), 1);
        due(x.train(2, 9, 1, 1), 0);
        due(x.hold(0, false), 0);
        // nobody waits where no goal is
        order(x, "w01=0&h01>0:o00");
        due(x.holds(6), 1);
    }

    private static void holdAnew() {
        about("if ORS hold, and did not as the TICK ahead ended (or it was not asked then), its ACTS are GIVEN");
        CrowdOut x = bare();
        order(x, "t<9:o00");
        due(x.total(10), 0);
        int[] given = {1, 1, 1};
        for (int g : given) {
            x.ticks(1);
            due(x.total(10), g);
        }
        due(x.given(0, 1), 1);
        // made while it holds: it is asked on the next tick
        due(order(x, "t<9:s00"), 1);
        due(x.total(10), 1);
        x.ticks(1);
        due(x.total(10), 2);
        // struck as one tick ended
        x.stand(0, false);
        x.ticks(1);
        x.stand(0, true);
        x.ticks(1);
        due(x.total(10), 3);
        // it held, did not on one tick, and holds again
        CrowdOut y = bare();
        order(y, "!t=3:o00");
        y.ticks(2);
        due(y.total(10), 1);
        y.ticks(1);
        due(y.total(10), 1);
        y.ticks(1);
        due(y.total(10), 2);
        due(y.given(1, 1), 4);
        // struck while it holds, put back as it does not, and it holds later
        CrowdOut z = bare();
        order(z, "t=2|t=4:o00");
        z.ticks(2);
        z.stand(0, false);
        z.ticks(1);
        z.stand(0, true);
        z.ticks(1);
        due(z.total(10), 2);
        about("ORDERS that stand, by numbers");
        CrowdOut w = bare();
        tape(w, "t=1:o09");
        w.order(0);
        order(w, "t=1:o01;o02");
        order(w, "t=1:o03");
        w.ticks(1);
        due(w.total(10), 3);
        for (int i = 0; i < 3; i++) due(w.given(i, 3), 1 + i);
        due(w.given(1, 0), 1);
        due(w.given(2, 0), 2);
    }

    private static void givenAtMost() {
        about("its ACTS are GIVEN (200 in all at most; what is beyond is not)");
        for (int before : new int[] {198, 199, 200}) {
            CrowdOut x = line(9, 1, 9, 1);
            x.folk(0, 5, 2, 0);
            x.linkSet(0, 0, 0);
            due(order(x, "t>0:" + "g00;".repeat(24) + "g00"), 0);
            for (int i = 0; i < 7; i++) {
                x.ticks(1);
                x.stand(0, false);
                x.ticks(1);
                x.stand(0, true);
            }
            x.stand(0, false);
            due(x.total(10), 175);
            due(order(x, "t=15:" + "g00;".repeat(before - 176) + "g00"), 1);
            due(order(x, "t=16:s01;b00"), 2);
            due(order(x, "t=17:s00"), 3);
            x.ticks(1);
            due(x.total(10), before);
            x.ticks(1);
            due(x.total(10), 200);
            due(x.given(199, 1), before == 200 ? 15 : 16);
            due(x.given(199, 2), before == 200 ? 4 : before == 199 ? 2 : 5);
            due(x.given(200, 0), -9);
            x.ticks(3);
            due(x.total(10), 200);
            due(x.linkSet(1, 0, 1), before < 200 ? 0 : 1);
            x.linkSet(0, 0, 1);
            x.ticks(1);
            // turned or not
            due(x.folkOf(0, 1, 0), before == 198 ? 0 : 5);
        }
        // 120 bytes of acts at once: exactly 200 with 29 each, the last of seven is cut
        CrowdOut y = bare();
        for (int i = 0; i < 7; i++) order(y, "t=1:" + "b00;".repeat(28) + "b0" + i);
        y.ticks(1);
        due(y.total(10), 200);
        due(y.given(28, 3), 0);
        due(y.given(57, 3), 1);
        due(y.given(173, 3), 5);
        due(y.given(199, 3), 0);
        due(y.given(199, 0), 6);
    }

    private static void heardLater() {
        about("the others 1 TICK later");
        CrowdOut x = line(9, 1, 9, 1);
        x.linkSet(0, 3, 20);
        x.folk(0, 9, 2, 0);
        x.train(2, 99, 1, 1);
        order(x, "t=1:k00;g00;b00;o01;s00;o05");
        x.ticks(1);
        int[] heard = {2, 2, 2, 2, 22, 2};
        for (int i = 0; i < 6; i++) due(x.given(i, 4), heard[i]);
        order(x, "t=2:k00");
        x.ticks(1);
        due(x.hold(0, false), 0);
        x.ticks(1);
        due(x.hold(0, false), 1);
        // on the last tick what is given is to be heard behind it
        CrowdOut y = line(9, 1, 9, 1);
        order(y, "t=999:s00");
        y.ticks(998);
        due(y.total(10), 0);
        y.ticks(1);
        due(y.total(10), 1);
        due(y.given(0, 4), 1000);
        due(y.linkSet(0, 0, 1), 1);
    }

    private static void turn() {
        about("TURN: FOLK is TURNED, or if it was, no more");
        for (int times = 1; times <= 4; times++) {
            CrowdOut x = line(9, 1, 9, 1);
            x.folk(0, 9, 2, 0);
            x.linkSet(0, 0, 0);
            order(x, "t=1:b00" + ";b00".repeat(times - 1));
            x.ticks(2);
            x.linkSet(0, 0, 1);
            due(x.out(-1, 0), times % 2 == 1 ? 0 : 4);
            x.ticks(1);
            due(x.folkOf(0, 1, 0), times % 2 == 1 ? 0 : 9);
        }
    }

    // ---- V

    private static void tellings() {
        about("tellings of it (60 at most) come later");
        CrowdOut x = line(9, 1, 9, 1);
        for (int i = 1; i <= 59; i++) due(x.counted(0, 0, i), i);
        due(x.counted(1, 0, 99999), 60);
        due(x.counted(0, 0, 0), -6);
        due(x.counted(1, 0, 0), -6);
        due(x.count(0, 0, 0), 59);
        due(x.count(1, 0, 0), 99999);
        due(x.wrong(0, 0), 59);
        due(x.wrong(1, 0), 99999);
        x.ticks(1);
        due(x.counted(0, 1, 0), -6);
        due(x.count(0, 1, 1), -9);
        about("-3 a TICK behind now");
        CrowdOut y = line(9, 1, 9, 1);
        y.ticks(4);
        due(y.counted(0, 4, 0), 1);
        due(y.counted(0, 5, 0), -3);
        due(y.counted(0, 0, 0), 2);
        due(y.counted(0, -1, 0), -4);
    }

    private static void known() {
        about("the latest told as known on a TICK counts");
        CrowdOut x = line(9, 1, 9, 1);
        x.ticks(3);
        x.counted(0, 1, 4);
        x.ticks(4);
        x.counted(0, 1, 0);
        x.counted(0, 1, 6);
        x.ticks(992);
        x.counted(0, 1, 8);
        x.counted(0, 999, 1);
        int[][] of = {{0, -9}, {2, -9}, {3, 4}, {6, 4}, {7, 6}, {998, 6}, {999, 8}};
        for (int[] o : of) due(x.count(0, 1, o[0]), o[1]);
        due(x.count(0, 999, 999), 1);
        due(x.count(0, 999, 998), -9);
        due(x.count(0, 0, 999), -9);
        due(x.count(1, 1, 999), -9);
        // 0 told is a count, not none
        CrowdOut y = line(9, 1, 9, 1);
        y.counted(0, 0, 0);
        due(y.count(0, 0, 0), 0);
    }

    private static void off() {
        about("(amounts, of TICKS of which there is one)");
        CrowdOut x = line(9, 1, 4, 1);
        x.folk(0, 20, 2, 0);
        x.ticks(3);
        due(x.wrong(0, 3), 0);
        // 9 and 9 and 2 went: less, as many and more
        x.counted(0, 1, 8);
        due(x.wrong(0, 3), 1);
        x.counted(0, 2, 9);
        due(x.wrong(0, 3), 1);
        x.counted(0, 3, 4);
        due(x.wrong(0, 3), 3);
        due(x.wrong(0, 2), 0);
        x.counted(0, 3, 2);
        due(x.wrong(0, 3), 1);
        // on TICK 0 nobody went
        x.counted(0, 0, 5);
        due(x.wrong(0, 3), 6);
        due(x.wrong(1, 3), 0);
        x.counted(1, 3, 0);
        due(x.wrong(1, 999), 4);
        // one head alone
        CrowdOut y = line(9, 1, 9, 1);
        y.folk(1, 1, 2, 0);
        y.ticks(1);
        y.counted(1, 1, 0);
        due(y.wrong(1, 1), 1);
        y.counted(1, 1, 1);
        due(y.wrong(1, 1), 0);
    }

    // ---- VI

    /** So many heads who go out one a tick: out on the tick behind the last that goes. */
    private static CrowdOut oneByOne(int heads) {
        CrowdOut x = new CrowdOut();
        x.area(3, 1);
        x.area(0, 500);
        x.link(1, 0, 1, 1);
        x.folk(1, heads, 0, 0);
        return x;
    }

    private static void emptying() {
        about("300 TICKS at most");
        for (int heads = 298; heads <= 301; heads++) {
            CrowdOut x = oneByOne(heads);
            due(x.out(-1, 0), heads < 300 ? heads + 1 : -9);
            due(x.worst(1), -9);
            due(x.design(300, 999, 0), -9);
            x.link(1, 0, 1, 1);
            due(x.worst(1), heads < 300 ? heads + 1 : -9);
            due(x.design(300, 999, 2), heads < 300 ? heads + 1 : -9);
            due(x.design(299, 999, 2), heads < 299 ? heads + 1 : -9);
        }
        // what is pressed and falls behind tick 300 is not seen: on 301 all would be in the area
        CrowdOut y = new CrowdOut();
        y.area(3, 1);
        y.area(1, 10);
        y.area(0, 500);
        y.link(2, 1, 999, 9);
        y.link(1, 0, 1, 9);
        y.linkSet(0, 0, 0);
        y.folk(2, 15, 0, 0);
        order(y, "t=290:o00");
        // heard on 291, there on 300
        due(y.out(-1, 1), 150);
        due(y.out(-1, 2), 1);
        CrowdOut z = new CrowdOut();
        z.area(3, 1);
        z.area(1, 10);
        z.area(0, 500);
        z.link(2, 1, 999, 9);
        z.link(1, 0, 1, 9);
        z.linkSet(0, 0, 0);
        z.folk(2, 15, 0, 0);
        order(z, "t=291:o00");
        due(z.out(-1, 1), 3);
        due(z.out(-1, 2), 2);
        z.ticks(1);
        due(z.out(-1, 1), 150);
    }

    private static void emptyingBeyond() {
        about("also beyond TICK 999");
        CrowdOut x = oneByOne(299);
        x.linkSet(0, 0, 0);
        x.ticks(998);
        order(x, "t=1000:o00");
        // heard on 1001, and then 299 one by one: out on 1300
        due(x.out(-1, 0), -9);
        x.linkSet(0, 0, 1);
        due(x.out(-1, 0), 300);
        x.linkSet(0, 0, 0);
        x.ticks(1);
        due(x.out(-1, 0), -9);
        due(x.total(0), 999);
        CrowdOut y = oneByOne(200);
        y.linkSet(0, 0, 0);
        y.ticks(999);
        order(y, "t=1098:o00");
        due(y.out(-1, 0), 300);
        y.option(0, 4, 2);
        due(y.design(300, 999, 0), -9);
        due(y.out(0, 0), -9);
        CrowdOut z = oneByOne(200);
        z.linkSet(0, 0, 0);
        z.ticks(999);
        order(z, "t=1099:o00");
        due(z.out(-1, 0), -9);
        // trains come beyond it, too
        CrowdOut v = line(9, 1, 9, 1);
        v.folk(1, 5, 2, 0);
        v.ticks(2);
        v.folk(0, 5, 2, 0);
        v.linkSet(0, 0, 0);
        v.train(2, 997, 100, 2);
        order(v, "w02=1:o00");
        v.ticks(997);
        due(v.total(8), 2);
        // 3 wait; one is left on 1097, heard on 1098, out on 1101
        due(v.out(-1, 0), 1101 - 999);
    }

    private static void emptyingOver() {
        about("(0 if it is over now)");
        CrowdOut none = new CrowdOut();
        int[] over = {0, 0, -9, 0};
        for (int what = 0; what < 4; what++) due(none.out(-1, what), over[what]);
        CrowdOut x = line(5, 1, 5, 1);
        x.folk(0, 5, 2, 0);
        x.ticks(2);
        due(x.out(-1, 0), 2);
        x.ticks(1);
        due(x.out(-1, 0), 1);
        due(x.out(-1, 1), 0);
        due(x.out(-1, 2), 0);
        x.ticks(1);
        for (int block = -1; block < 2; block++)
            for (int what = 0; what < 4; what++) due(x.out(block, what), over[what]);
        due(x.worst(0), 0);
        due(x.worst(1), 0);
        due(x.worst(2), 0);
        for (int what = 0; what < 4; what++) due(x.design(1, 1, what), 0);
        about("all HEADS of FOLK that is not TURNED are OUT, all of TURNED ones OUT or in their HOME");
        CrowdOut y = line(5, 1, 5, 2);
        y.folk(0, 12, 2, 0);
        order(y, "t=5:b00");
        // 5 are out on 5; 5 and 2 come to the goal on 6 and 7 as turned ones, and are home on 11 and 12
        due(y.out(-1, 0), 12);
        y.ticks(5);
        due(y.total(5), 5);
        due(y.out(-1, 0), 7);
        y.ticks(3);
        due(y.folkOf(0, 1, 1), 7);
        due(y.out(-1, 0), 4);
        y.ticks(3);
        due(y.folkOf(0, 0, 0), 5);
        due(y.out(-1, 0), 1);
        y.ticks(1);
        due(y.folkOf(0, 0, 0), 7);
        due(y.out(-1, 0), 0);
        // turned back on 14: at home, but it is not over; out on 14 and 15 and 3 later each
        order(y, "t=13:b00");
        y.ticks(1);
        due(y.out(-1, 0), 0);
        y.ticks(1);
        due(y.out(-1, 0), 5);
        about("nothing changes by it");
        CrowdOut z = line(5, 1, 2, 2);
        z.folk(0, 90, 2, 0);
        z.folk(1, 50, 2, 1);
        order(z, "p01>110:s00;k00");
        z.train(2, 3, 1, 1);
        z.ticks(3);
        CrowdOut w = line(5, 1, 2, 2);
        w.folk(0, 90, 2, 0);
        w.folk(1, 50, 2, 1);
        order(w, "p01>110:s00;k00");
        w.train(2, 3, 1, 1);
        w.ticks(3);
        w.option(0, 4, 50);
        for (int i = -1; i < 2; i++) w.out(i, 0);
        w.worst(0);
        w.design(300, 999, 0);
        for (int i = 0; i < 20; i++) {
            due(w.ticks(1), z.ticks(1));
            for (int what = 0; what < 11; what++) due(w.total(what), z.total(what));
            for (int what = 2; what < 8; what++) due(w.areaOf(1, what), z.areaOf(1, what));
        }
    }

    private static void emptyingAsItIs() {
        about("THE EMPTYING: all as it is now goes on");
        // it was given on tick 1 and holds still: it is not given anew, and so the link stays open
        CrowdOut y = line(1, 1, 5, 1);
        order(y, "t>0:s00");
        y.ticks(2);
        y.linkSet(0, 0, 1);
        y.folk(0, 5, 2, 0);
        due(y.out(-1, 0), 8);
        // one emptying leaves nothing behind for the next: the order holds at its end, but it was not yet asked now
        CrowdOut z = line(1, 1, 5, 1);
        z.folk(0, 9, 2, 0);
        order(z, "t>0:s00");
        due(z.out(-1, 0), -9);
        z.linkSet(0, 4, 8);
        due(z.out(-1, 0), -9);
        z.linkSet(0, 4, 9);
        due(z.out(-1, 0), 5);
        z.linkSet(0, 4, 8);
        due(z.out(-1, 0), -9);
        // area 1 is tight now, and those in it are at home: 5 go round by area 3; with a higher TIGHT they do not
        CrowdOut w = new CrowdOut();
        w.area(0, 9);
        w.area(1, 10);
        w.area(3, 1);
        w.area(2, 90);
        w.link(0, 1, 9, 1);
        w.link(1, 2, 9, 1);
        w.link(0, 3, 9, 2);
        w.link(3, 2, 9, 2);
        w.folk(1, 10, 2, 0);
        w.linkSet(0, 0, 0);
        w.linkSet(1, 0, 0);
        order(w, "t=1:b00");
        w.ticks(2);
        w.linkSet(0, 0, 1);
        w.linkSet(1, 0, 1);
        w.folk(0, 5, 2, 0);
        due(w.out(-1, 0), 6);
        w.set(1, 101);
        due(w.out(-1, 0), 4);
        w.set(1, 100);
        due(w.out(-1, 0), 6);
    }

    private static void emptyingBlocked() {
        about("with a LINK that is as if shut all the time (who is on it still comes)");
        CrowdOut x = line(5, 3, 5, 1);
        x.folk(0, 5, 2, 0);
        due(x.out(0, 0), -9);
        x.ticks(1);
        due(x.out(0, 0), 5);
        due(x.out(1, 0), -9);
        x.ticks(3);
        due(x.folkOf(0, 0, 1), 5);
        due(x.out(1, 0), -9);
        x.ticks(1);
        due(x.folkOf(0, 1, 1), 5);
        due(x.out(1, 0), 1);
        // opened by an order, it is as if shut all the same
        CrowdOut y = line(5, 1, 5, 1);
        y.folk(0, 5, 2, 0);
        y.linkSet(0, 0, 0);
        order(y, "t=1:o00");
        due(y.out(-1, 0), 5);
        due(y.out(0, 0), -9);
        y.option(0, 0, 1);
        due(y.design(300, 999, 0), -9);
        due(y.linkSet(0, 0, 0), 0);
        // it is not shut behind the emptying
        CrowdOut z = line(5, 1, 5, 1);
        z.folk(0, 5, 2, 0);
        z.out(0, 0);
        due(z.next(0, 2, false), 0);
        due(z.ticks(4), 5);
        // TURNED ones may not go by it, too
        CrowdOut w = line(5, 1, 5, 9);
        w.folk(0, 5, 2, 0);
        order(w, "t=2:b00");
        w.ticks(2);
        due(w.out(-1, 0), 2);
        due(w.out(0, 0), -9);
        due(w.out(1, 0), 2);
    }

    private static void emptyingFell() {
        about("FELL in it counts from now on");
        CrowdOut x = pressed(120, 100);
        // 120 on tick 2: one a tick from tick 4 on, till 120 have fallen
        due(x.out(-1, 3), 120);
        x.ticks(3);
        due(x.total(6), 1);
        due(x.out(-1, 3), 119);
        x.ticks(118);
        due(x.total(6), 119);
        due(x.out(-1, 3), 1);
        x.ticks(1);
        due(x.out(-1, 3), 0);
        due(x.total(6), 120);
        // PUSH goes on from what it is: with 2 now it falls on the first tick
        CrowdOut y = pressed(120, 100);
        y.ticks(2);
        y.linkSet(1, 4, 1);
        y.linkSet(1, 0, 1);
        due(y.out(-1, 3), 0);
        y.linkSet(1, 0, 0);
        due(y.areaOf(1, 4), 2);
        due(y.out(-1, 3), 120);
        // with the way open again: one leaves on each tick, so it is 119 as the third ends
        CrowdOut z = pressed(122, 100);
        z.linkSet(1, 4, 1);
        z.linkSet(1, 0, 1);
        due(z.out(-1, 3), 1);
        CrowdOut w = pressed(121, 100);
        w.linkSet(1, 4, 1);
        w.linkSet(1, 0, 1);
        due(w.out(-1, 3), 0);
    }

    private static void emptyingPress() {
        about("the AREA where it was (the least, on the first such TICK; 0 and -9 without a TICK)");
        CrowdOut x = new CrowdOut();
        x.area(3, 1);
        x.area(1, 10);
        x.area(0, 10);
        x.link(2, 1, 9, 2);
        x.link(1, 0, 9, 1);
        x.folk(2, 10, 0, 0);
        // as tick 1 ends area 2 has 1, press 10; area 1 has 9 on tick 3
        due(x.out(-1, 1), 90);
        due(x.out(-1, 2), 1);
        CrowdOut y = new CrowdOut();
        y.area(3, 1);
        y.area(1, 10);
        y.area(0, 10);
        y.link(2, 1, 5, 2);
        y.link(1, 0, 9, 1);
        y.folk(2, 10, 0, 0);
        // 50 in area 2 on tick 1, 50 in area 1 on tick 3
        due(y.out(-1, 1), 50);
        due(y.out(-1, 2), 2);
        // on the same tick: the least
        CrowdOut z = new CrowdOut();
        z.area(3, 1);
        z.area(1, 10);
        z.area(0, 10);
        z.link(2, 0, 5, 2);
        z.link(1, 0, 5, 1);
        z.folk(2, 10, 0, 0);
        z.folk(1, 10, 0, 0);
        due(z.out(-1, 1), 50);
        due(z.out(-1, 2), 1);
        // PRESS ahead of the first tick does not count
        CrowdOut w = new CrowdOut();
        w.area(3, 1);
        w.area(0, 10);
        w.area(0, 10);
        w.link(1, 0, 9, 1);
        w.folk(1, 10, 0, 0);
        due(w.areaOf(1, 3), 100);
        due(w.out(-1, 1), 10);
        due(w.out(-1, 2), 1);
        w.linkSet(0, 4, 10);
        // none has any: the least area, on the first tick
        due(w.out(-1, 1), 0);
        due(w.out(-1, 2), 0);
    }

    private static void worst() {
        about("(not within 300 ahead of all), of several the greatest PRESS, of these the least");
        CrowdOut none = new CrowdOut();
        none.area(0, 9);
        none.area(3, 9);
        none.folk(0, 9, 1, 0);
        for (int what = 0; what < 3; what++) due(none.worst(what), -9);
        // link 0 lasts 300 if it is blocked (1 a tick by link 1), link 2 never ends: not within 300 is ahead
        for (int heads = 299; heads <= 300; heads++) {
            CrowdOut x = new CrowdOut();
            x.area(3, 1);
            x.area(0, 500);
            x.area(0, 100);
            x.link(1, 0, 9, 1);
            x.link(1, 0, 1, 2);
            x.link(2, 0, 9, 1);
            x.link(2, 0, 9, 1);
            x.folk(1, heads - 1, 0, 0);
            x.folk(2, 1, 0, 0);
            due(x.worst(0), 0);
            due(x.worst(1), heads == 299 ? 300 : -9);
            x.linkSet(3, 0, 0);
            due(x.worst(0), heads == 299 ? 2 : 0);
            due(x.worst(1), -9);
        }
        // neither ends: the greatest PRESS; then, as much: the least
        for (int heads = 29; heads <= 31; heads++) {
            CrowdOut x = new CrowdOut();
            x.area(3, 1);
            x.area(0, 100);
            x.area(0, 100);
            x.link(1, 0, 99, 1);
            x.link(2, 0, 99, 1);
            x.folk(1, 30, 0, 0);
            x.folk(2, heads, 0, 0);
            due(x.worst(0), heads <= 30 ? 0 : 1);
            due(x.worst(2), Math.max(30, heads));
        }
    }

    private static void options() {
        about("OPTIONS (4 at most): changes of LINKS");
        CrowdOut x = line(5, 1, 5, 1);
        for (int i = 0; i < 4; i++) due(x.option(i % 2, 4, 9), i);
        due(x.option(0, 4, 9), -6);
        about("An OPTION of the design, as linkSet()");
        // each what makes the ground end or not: it begins with link 0 shut, WAY 2, STEPS, and too narrow
        int[][] of = {{0, 0, 1}, {1, 2, 1}, {1, 2, 0}, {2, 1, 0}, {4, 1, 9}};
        for (int[] o : of) {
            CrowdOut y = new CrowdOut();
            y.area(0, 10);
            y.area(3, 1);
            y.link(0, 1, 9, 1);
            y.link(0, 1, 9, 1);
            y.folk(0, 9, 1, 2);
            for (int l = 0; l < 2; l++) y.linkSet(l, o[0], o[1]);
            due(y.design(2, 999, 0), -9);
            due(y.option(0, o[0], o[2]), 0);
            due(y.design(2, 999, 0), -9);
            due(y.option(1, o[0], o[2]), 1);
            due(y.design(2, 999, 0), 3);
            due(y.design(2, 999, 1), 2);
            due(y.linkSet(0, o[0], o[1]), o[1]);
        }
        // HEARS: an order shuts link 0 and 1 on tick 1; heard 20 later all are out by then
        CrowdOut z = new CrowdOut();
        z.area(0, 10);
        z.area(3, 1);
        z.link(0, 1, 1, 1);
        z.link(0, 1, 1, 1);
        z.folk(0, 9, 1, 0);
        order(z, "t=1:s00;s01");
        due(z.design(300, 999, 0), -9);
        z.option(0, 3, 20);
        z.option(1, 3, 8);
        due(z.design(300, 999, 0), 3);
        due(z.design(10, 999, 2), 10);
        due(z.design(9, 999, 2), -9);
    }

    private static void design() {
        about("ends within TICKS and no PRESS is above");
        CrowdOut x = new CrowdOut();
        x.area(0, 10);
        x.area(3, 1);
        x.link(0, 1, 4, 1);
        x.link(0, 1, 4, 1);
        x.folk(0, 10, 1, 0);
        // 4, 4, 2: out on 4; press 60
        int[][] of = {{4, 60, 0}, {3, 60, -9}, {4, 59, -9}, {5, 61, 0}, {300, 999, 0}, {1, 1, -9}, {4, 999, 0}, {300, 60, 0}};
        for (int[] o : of) due(x.design(o[0], o[1], 0), o[2]);
        due(x.design(300, 999, 2), 4);
        due(x.design(300, 999, 3), 60);
        // PRESS now is not as a tick ends: 100, and 0 as the first tick ends
        CrowdOut y = new CrowdOut();
        y.area(0, 10);
        y.area(3, 1);
        y.link(0, 1, 10, 1);
        y.link(0, 1, 10, 1);
        y.folk(0, 10, 1, 0);
        due(y.design(2, 1, 0), 0);
        due(y.design(2, 1, 3), 0);
        // PRESS is above only as the last tick ends: turned ones come home on it
        CrowdOut z = new CrowdOut();
        z.area(0, 10);
        z.area(2, 1000);
        z.area(3, 1);
        z.link(0, 1, 99, 1);
        z.link(1, 2, 99, 9);
        z.link(0, 1, 99, 1);
        z.folk(0, 10, 2, 0);
        order(z, "t=1:b00");
        z.ticks(1);
        due(z.design(3, 100, 0), 0);
        due(z.design(3, 100, 2), 3);
        due(z.design(3, 100, 3), 100);
        due(z.design(3, 99, 0), -9);
        due(z.design(2, 100, 0), -9);
        about("-9 none does it");
        for (int what = 0; what < 4; what++) due(x.design(3, 60, what), -9);
    }

    private static void designFewest() {
        about("the fewest OPTIONS (all done at once, now, by numbers), of several the least as bits");
        // options 0 and 1 together do it, option 3 alone does it: the fewest, though 3 is less than 8
        CrowdOut x = new CrowdOut();
        x.area(0, 10);
        x.area(3, 1);
        for (int i = 0; i < 8; i++) x.link(0, 1, 1, 1);
        for (int i = 6; i < 8; i++) x.linkSet(i, 0, 0);
        x.folk(0, 10, 1, 0);
        x.linkSet(7, 4, 10);
        x.linkSet(6, 4, 10);
        x.linkSet(6, 2, 1);
        for (int i = 0; i < 6; i++) x.linkSet(i, 0, 0);
        x.option(5, 2, 0);
        x.option(4, 2, 0);
        x.option(3, 2, 0);
        x.option(7, 0, 1);
        due(x.design(2, 999, 0), 8);
        due(x.design(2, 999, 1), 1);
        // two do it each alone: the least
        CrowdOut y = new CrowdOut();
        y.area(0, 10);
        y.area(3, 1);
        for (int i = 0; i < 8; i++) y.link(0, 1, 10, 1);
        for (int i = 0; i < 8; i++) y.linkSet(i, 0, 0);
        y.folk(0, 10, 1, 0);
        y.option(0, 0, 1);
        y.option(7, 0, 1);
        y.option(6, 0, 1);
        due(y.design(2, 999, 0), 2);
        // by numbers: the later of two stands
        CrowdOut z = new CrowdOut();
        z.area(0, 10);
        z.area(3, 1);
        for (int i = 0; i < 8; i++) z.link(0, 1, 1, 1);
        for (int i = 0; i < 7; i++) z.linkSet(i, 0, 0);
        z.folk(0, 10, 1, 0);
        z.option(7, 4, 3);
        z.option(7, 4, 2);
        due(z.design(5, 999, 0), 1);
        due(z.design(6, 999, 0), 1);
        due(z.design(11, 999, 0), 0);
        due(z.design(4, 999, 0), -9);
        due(z.design(10, 999, 2), 5);
        CrowdOut w = new CrowdOut();
        w.area(0, 10);
        w.area(3, 1);
        for (int i = 0; i < 8; i++) w.link(0, 1, 1, 1);
        for (int i = 0; i < 7; i++) w.linkSet(i, 0, 0);
        w.folk(0, 10, 1, 0);
        w.linkSet(7, 0, 0);
        w.option(7, 4, 10);
        w.option(7, 4, 9);
        w.option(7, 0, 1);
        due(w.design(2, 999, 0), 5);
        due(w.design(3, 999, 0), 5);
        due(w.design(11, 999, 0), 4);
        due(w.design(3, 999, 3), 0);
    }

    private static void designBlocked() {
        about("(Blocked are: none, then each of the first 6 LINKS.)");
        // one way out alone, by link n: blocked if it is one of the first six
        for (int n = 0; n < 9; n++) {
            CrowdOut x = new CrowdOut();
            x.area(0, 10);
            x.area(3, 1);
            x.area(1, 10);
            for (int i = 0; i < 9; i++) x.link(i == n ? 0 : 2, 1, 10, 1);
            x.folk(0, 10, 1, 0);
            due(x.design(300, 999, 0), n < 6 ? -9 : 0);
            due(x.worst(0), n);
            due(x.worst(1), -9);
        }
        // without a link there is none alone; fewer than six: those that there are
        CrowdOut y = new CrowdOut();
        y.area(0, 10);
        y.area(3, 1);
        due(y.design(1, 1, 0), 0);
        y.folk(0, 1, 1, 0);
        due(y.design(300, 999, 0), -9);
        y.link(0, 1, 1, 1);
        due(y.design(300, 999, 0), -9);
        y.link(0, 1, 1, 9);
        due(y.design(300, 999, 0), 0);
        due(y.design(300, 999, 2), 10);
        due(y.design(10, 999, 2), 10);
        due(y.design(9, 999, 2), -9);
    }

    // ---- what the promises answer at their edges

    private static void folkOf() {
        about("the TICK on which the last one came OUT (-9: not all are)");
        CrowdOut x = line(9, 1, 4, 1);
        x.folk(1, 5, 2, 0);
        due(x.folkOf(0, 4, 0), -9);
        due(x.ticks(2), 4);
        due(x.folkOf(0, 2, 0), 4);
        due(x.folkOf(0, 4, 0), -9);
        due(x.ticks(1), 1);
        due(x.folkOf(0, 2, 0), 5);
        due(x.folkOf(0, 4, 0), 3);
        x.ticks(5);
        due(x.folkOf(0, 4, Integer.MAX_VALUE), 3);
        due(x.folkOf(0, 3, Integer.MIN_VALUE), 2);
        due(x.folkOf(0, 2, -1), 5);
        // each folk has its own, also if another comes out behind it by the same link
        CrowdOut z = line(9, 1, 4, 1);
        z.folk(1, 4, 2, 0);
        z.folk(1, 4, 2, 0);
        z.ticks(3);
        due(z.folkOf(0, 4, 0), 2);
        due(z.folkOf(1, 4, 0), 3);
        about("HEADS on the way on LINK i (both ways)");
        CrowdOut y = line(3, 4, 9, 9);
        y.folk(0, 6, 2, 0);
        order(y, "t=4:b00");
        y.ticks(5);
        // 3 came to the stair on 5 as turned ones; 3 are still on the link
        due(y.folkOf(0, 1, 0), 3);
        y.ticks(1);
        due(y.folkOf(0, 1, 0), 3);
        due(y.folkOf(0, 0, 1), 3);
    }

    private static void given() {
        about("Of the i-th of THE GIVEN; -9 there is none such");
        CrowdOut x = bare();
        for (int what = 0; what < 5; what++) due(x.given(0, what), -9);
        order(x, "t=1:o00;b07");
        x.ticks(1);
        int[][] want = {{0, 1, 1, 0, 2}, {0, 1, 5, 7, 2}};
        for (int i = -1; i < 4; i++)
            for (int what = 0; what < 5; what++) due(x.given(i, what), i == 0 || i == 1 ? want[i][what] : -9);
    }

    private static void orders() {
        about("-6 12. (Refused: THE TAPE stays.)");
        CrowdOut x = bare();
        for (int i = 0; i < 11; i++) due(order(x, "t=1:o00"), i);
        due(x.stand(11, false), -1);
        due(x.holds(11), -1);
        due(order(x, "t=0:o00"), 11);
        due(x.holds(11), 1);
        due(x.stand(11, false), 1);
        due(x.holds(11), 1);
        due(x.stand(12, true), -1);
        due(x.total(9), 11);
        due(order(x, "t=1:o00"), -6);
        due(x.total(17), 7);
        due(x.order(0), -6);
        due(x.order(2), -2);
        due(x.feed(1, ';'), 8);
        due(x.total(17), 8);
        x.ticks(1);
        due(x.total(10), 11);
        about("(state 1: it stands, 0: it is struck)");
        CrowdOut y = bare();
        tape(y, "t>0:o00");
        due(y.order(0), 0);
        tape(y, "t>0:o00");
        due(y.order(1), 1);
        due(y.total(9), 1);
        y.ticks(1);
        due(y.total(10), 1);
        due(y.given(0, 0), 1);
        due(y.stand(0, false), 0);
        due(y.stand(1, true), 0);
        about("n (1 .. 8) bytes come, the lowest first");
        for (int n = 1; n <= 8; n++) {
            CrowdOut z = bare();
            due(z.feed(n, 0x30306f3a303d74L | 0xffL << 56), n);
            due(z.total(17), n);
            due(z.order(1), n == 7 ? 0 : n == 8 ? -27 : -20 - n);
        }
    }

    private static void walks() {
        about("TIME of that way in TICKS; -9 none (0 at the GOAL)");
        CrowdOut x = line(1, 9, 1, 1);
        due(x.walk(0, 2, false), 10);
        due(x.walk(2, 2, false), 0);
        x.linkSet(0, 1, 1);
        due(x.walk(0, 2, false), 10);
        x.linkSet(0, 1, 2);
        due(x.walk(0, 2, false), -9);
        due(x.walk(1, 2, false), 1);
        x.linkSet(0, 1, 0);
        x.linkSet(0, 2, 1);
        due(x.walk(0, 2, true), -9);
        due(x.walk(0, 2, false), 10);
        due(x.next(0, 2, true), -9);
        due(x.next(0, 2, false), 0);
        x.linkSet(0, 0, 0);
        due(x.walk(0, 2, false), -9);
        // each goal has its own way, with wheels and without: link 10 has steps
        CrowdOut z = new CrowdOut();
        for (int i = 0; i < 20; i++) z.area(3, 1);
        for (int i = 0; i < 19; i++) z.link(i, i + 1, 1, 1);
        z.linkSet(10, 2, 1);
        for (int goal = 1; goal < 20; goal++) {
            int other = 20 - goal;
            due(z.walk(0, goal, false), goal);
            due(z.walk(0, other, true), other > 10 ? -9 : other);
            due(z.walk(0, goal, true), goal > 10 ? -9 : goal);
            due(z.walk(0, other, false), other);
        }
        // WAY of a link from the goal: 2 is from b to a alone
        CrowdOut y = new CrowdOut();
        y.area(3, 1);
        y.area(0, 1);
        y.link(0, 1, 1, 1);
        int[] leads = {0, -9, 0};
        for (int way = 0; way < 3; way++) {
            y.linkSet(0, 1, way);
            due(y.next(1, 0, false), leads[way]);
        }
    }

    private static void places() {
        about("How many AREAS and LINKS HEADS of FOLK are in (0: all OUT)");
        CrowdOut x = line(1, 3, 1, 3);
        x.folk(0, 9, 2, 0);
        due(x.kin(0), 1);
        // one goes on each of the ticks 1 to 9; the last comes to the stair on 12, and is out on 16
        int[] in = {2, 2, 2, 3, 4, 4, 4, 4, 3, 3, 3, 2, 1, 1, 1, 0};
        for (int i : in) {
            x.ticks(1);
            due(x.kin(0), i);
        }
        x.ticks(1);
        due(x.kin(0), 0);
    }

    private static void totals() {
        about("11 .. 16 REFUSALS -1 .. -6");
        CrowdOut x = bare();
        for (int what = 0; what <= 17; what++) due(x.total(what), 0);
        x.kin(0);
        x.worst(3);
        x.worst(3);
        x.ticks(0);
        x.ticks(0);
        x.ticks(0);
        x.ticks(1000);
        int[] many = {1, 2, 0, 3, 0, 1};
        for (int i = 0; i < 6; i++) due(x.total(11 + i), many[i]);
        x.area(0, 9);
        x.area(3, 9);
        x.link(0, 1, 1, 1);
        x.folk(1, 1, 1, 0);
        due(x.total(13), 1);
        about("-9 for another what");
        due(x.total(-1), -9);
        due(x.total(18), -9);
        due(x.total(Integer.MIN_VALUE), -9);
        due(x.total(Integer.MAX_VALUE), -9);
        due(x.total(12), 2);
    }
}
