/** Each promise of the document: ordinary inputs, the edges that it names, and wrong inputs. Answers worked out by hand. */
public final class PromisesTest extends Check {
    public static void main(String[] args) {
        promise1NewObject();
        promise2Area();
        promise3Link();
        promise4LinkSet();
        promise5Folk();
        promise6Train();
        promise7Hold();
        promise8Set();
        promise9Ticks();
        promise9FreeAndWidth();
        promise9Room();
        promise9Kin();
        promise9WayOnAtThatMoment();
        promise9Turned();
        promise10AreaOf();
        promise11FolkOf();
        promise12Next();
        promise13Walk();
        promise14Feed();
        promise15Order();
        promise16Stand();
        promise17Holds();
        promise18Given();
        promise18Beyond200();
        promise19Counted();
        promise20Count();
        promise21Wrong();
        promise22Out();
        promise22GoesOn();
        promise22AfterEachChange();
        promise22AfterAnyTwoChanges();
        promise22Fell();
        promise23Worst();
        promise24Option();
        promise25Design();
        promise26Kin();
        promise27Total();
        end();
    }

    private static void promise1NewObject() {
        about("promise 1");
        CrowdOut x = new CrowdOut();
        for (int what = 0; what <= 17; what++) due(x.total(what), 0);
        due(x.set(0, 150), 150);
        due(x.set(1, 100), 100);
        due(x.set(2, 5), 5);
        due(x.areaOf(0, 0), -1);
    }

    private static void promise2Area() {
        about("promise 2");
        CrowdOut x = new CrowdOut();
        due(x.area(-1, 0), -2);
        due(x.area(4, 1), -2);
        due(x.area(0, 0), -4);
        due(x.area(0, Integer.MIN_VALUE), -4);
        due(x.area(0, 20001), -6);
        due(x.area(0, 1), 0);
        due(x.area(3, 20000), 1);
        for (int i = 2; i < 20; i++) due(x.area(i % 4, i), i);
        due(x.area(0, 1), -6);
        due(x.area(9, 1), -2);
        due(x.area(0, 0), -4);
        due(x.total(1), 20);
        due(x.areaOf(19, 0), 3);
        due(x.areaOf(19, 1), 19);
        due(x.areaOf(0, 1), 1);
        due(x.areaOf(1, 1), 20000);
    }

    private static void promise3Link() {
        about("promise 3");
        CrowdOut x = new CrowdOut();
        x.area(0, 9);
        x.area(3, 9);
        due(x.link(0, 2, 1, 1), -1);
        due(x.link(-1, 1, 0, 0), -1);
        due(x.link(1, 1, 0, 0), -1);
        due(x.link(0, 1, 0, 10), -4);
        due(x.link(0, 1, 1000, 0), -4);
        due(x.link(0, 1, 1000, 1), -6);
        due(x.link(0, 1, 1, 10), -6);
        due(x.link(0, 1, 999, 9), 0);
        due(x.linkSet(0, 0, 1), 1);
        due(x.linkSet(0, 1, 0), 0);
        due(x.linkSet(0, 2, 0), 0);
        due(x.linkSet(0, 3, 0), 0);
        due(x.linkSet(0, 4, 999), 999);
        due(x.walk(0, 1, false), 9);
        for (int i = 1; i < 30; i++) due(x.link(0, 1, 1, 1), i);
        due(x.link(0, 1, 1, 1), -6);
        due(x.link(0, 1, 1, 0), -4);
        due(x.total(2), 30);
    }

    private static void promise4LinkSet() {
        about("promise 4");
        CrowdOut x = line(1, 1, 1, 1);
        due(x.linkSet(2, 0, 0), -1);
        due(x.linkSet(-1, 9, 0), -1);
        due(x.linkSet(0, 5, -1), -2);
        due(x.linkSet(0, -1, -1), -2);
        int[] least = {0, 0, 0, 0, 1};
        int[] most = {1, 2, 1, 20, 999};
        int[] first = {1, 0, 0, 0, 1};
        for (int what = 0; what < 5; what++) {
            due(x.linkSet(0, what, least[what] - 1), -4);
            due(x.linkSet(0, what, most[what] + 1), -6);
            due(x.linkSet(0, what, most[what]), first[what]);
            due(x.linkSet(0, what, least[what]), most[what]);
            due(x.linkSet(0, what, least[what]), least[what]);
        }
        due(x.total(14), 5);
        due(x.total(16), 5);
    }

    private static void promise5Folk() {
        about("promise 5");
        CrowdOut x = line(1, 1, 1, 1);
        x.area(3, 5);
        due(x.folk(4, 0, 2, 9), -1);
        due(x.folk(0, 0, 4, 9), -1);
        due(x.folk(0, 0, 1, 9), -1);
        due(x.folk(2, 0, 2, 3), -2);
        due(x.folk(0, 1, 2, -1), -2);
        due(x.folk(2, 0, 2, 0), -3);
        due(x.folk(0, 0, 2, 0), -4);
        due(x.folk(0, 101, 2, 0), -6);
        due(x.folk(0, 10000, 2, 0), -6);
        due(x.folk(0, Integer.MAX_VALUE, 2, 0), -6);
        due(x.folk(0, 99, 2, 0), 0);
        due(x.folk(0, 2, 2, 0), -6);
        due(x.folk(0, 1, 3, 2), 1);
        due(x.folkOf(1, 3, 0), 3);
        due(x.folk(3, 6, 2, 1), -6);
        due(x.folk(3, 5, 2, 1), 2);
        for (int i = 3; i < 24; i++) due(x.folk(1, 1, 2, i % 3), i);
        due(x.folk(1, 1, 2, 0), -6);
        due(x.folk(1, 0, 2, 0), -4);
        due(x.areaOf(1, 2), 21);
        due(x.total(3), 24);
        due(x.total(4), 99 + 1 + 5 + 21);
        CrowdOut y = new CrowdOut();
        y.area(0, 20000);
        y.area(3, 1);
        due(y.folk(0, 10000, 1, 0), -6);
        due(y.folk(0, 9999, 1, 0), 0);
        due(y.folk(0, 9999, 1, 0), 1);
        due(y.folk(0, 3, 1, 0), -6);
        due(y.folk(0, 2, 1, 0), 2);
    }

    private static void promise6Train() {
        about("promise 6");
        CrowdOut x = line(9, 1, 9, 1);
        due(x.train(0, -1, 0, 0), -1);
        due(x.train(3, 0, 1, 1), -1);
        due(x.train(2, -1, 1, 1), -4);
        due(x.train(2, 1000, 0, 1), -4);
        due(x.train(2, 0, 1, 0), -4);
        due(x.train(2, 1000, 1, 1), -6);
        due(x.train(2, 0, 201, 1), -6);
        due(x.train(2, 0, 1, 10000), -6);
        due(x.train(2, 999, 200, 9999), 0);
        x.ticks(3);
        due(x.train(2, 2, 1, 1), -4);
        due(x.train(2, 3, 1, 1), 1);
        for (int i = 2; i < 8; i++) due(x.train(2, 9, 1, 1), i);
        due(x.train(2, 9, 1, 1), -6);
        due(x.train(2, 2, 1, 1), -4);
        due(x.total(7), 8);

        // 20 come out on tick 2; by numbers, on their own ticks, from those that wait at their goal alone
        CrowdOut y = line(20, 1, 20, 1);
        y.area(3, 1);
        y.folk(1, 20, 2, 0);
        due(y.train(2, 2, 3, 5), 0);
        due(y.train(2, 3, 200, 4), 1);
        due(y.train(3, 1, 1, 9), 2);
        y.ticks(1);
        due(y.total(8), 0);
        y.ticks(1);
        due(y.total(8), 5);
        y.ticks(1);
        due(y.total(8), 9);
        y.ticks(2);
        due(y.total(8), 14);
        y.ticks(3);
        due(y.total(8), 19);
        y.ticks(3);
        due(y.total(8), 20);
        due(y.total(5), 20);
        due(y.folkOf(0, 2, 0), 20);
    }

    private static void promise7Hold() {
        about("promise 7");
        CrowdOut x = line(20, 1, 20, 1);
        x.folk(1, 20, 2, 0);
        due(x.hold(0, true), -1);
        x.train(2, 2, 1, 3);
        due(x.hold(1, true), -1);
        due(x.hold(-1, false), -1);
        due(x.hold(0, false), 0);
        due(x.hold(0, true), 1);
        due(x.hold(0, true), 0);
        x.ticks(4);
        due(x.total(8), 0);
        due(x.hold(0, false), 1);
        x.ticks(2);
        due(x.total(8), 6);
    }

    private static void promise8Set() {
        about("promise 8");
        CrowdOut x = new CrowdOut();
        due(x.set(-1, 0), -2);
        due(x.set(3, 0), -2);
        int[] least = {100, 10, 0};
        int[] most = {300, 300, 50};
        int[] first = {150, 100, 5};
        for (int what = 0; what < 3; what++) {
            due(x.set(what, least[what] - 1), -4);
            due(x.set(what, most[what] + 1), -6);
            due(x.set(what, least[what]), first[what]);
            due(x.set(what, most[what]), least[what]);
            due(x.set(what, most[what]), most[what]);
        }
        // TIGHT and LONG at once change the way's time: the stair has a press of 60
        CrowdOut y = line(9, 2, 9, 3);
        y.folk(1, 30, 2, 0);
        due(y.walk(0, 2, false), 5);
        y.set(1, 60);
        due(y.walk(0, 2, false), 10);
        y.set(2, 50);
        due(y.walk(0, 2, false), 55);
        y.set(1, 61);
        due(y.walk(0, 2, false), 5);
        // the area of number 0, too, and a press of just below
        CrowdOut z = new CrowdOut();
        z.area(1, 100);
        z.area(3, 1);
        z.area(0, 200);
        z.link(2, 0, 9, 1);
        z.link(0, 1, 9, 1);
        z.folk(0, 99, 1, 0);
        due(z.walk(2, 1, false), 2);
        z.folk(0, 1, 1, 0);
        due(z.walk(2, 1, false), 7);
        z.set(1, 101);
        due(z.walk(2, 1, false), 2);
        z.set(1, 100);
        due(z.walk(2, 1, false), 7);
    }

    private static void promise9Ticks() {
        about("promise 9");
        CrowdOut x = line(20, 2, 30, 1);
        due(x.ticks(0), -4);
        due(x.ticks(-5), -4);
        due(x.ticks(1000), -6);
        due(x.ticks(Integer.MAX_VALUE), -6);
        due(x.total(0), 0);
        x.folk(0, 90, 2, 0);
        due(x.ticks(4), 0);
        due(x.ticks(1), 20);
        // the stair has room for 75: on tick 4 it has 40 and 20 more are on the way, so only 15 go
        due(x.ticks(3), 55);
        due(x.ticks(2), 15);
        due(x.total(0), 10);
        due(x.ticks(990), -6);
        due(x.ticks(989), 0);
        due(x.total(0), 999);
        due(x.ticks(1), -6);
    }

    private static void promise9FreeAndWidth() {
        about("promise 9, WIDE");
        // WIDE is of both ways together: folk 0 from 0 to 2, folk 1 from 2 to 0
        CrowdOut x = new CrowdOut();
        x.area(3, 50);
        x.area(0, 50);
        x.area(3, 50);
        x.link(0, 2, 10, 3);
        x.folk(0, 7, 2, 0);
        x.folk(2, 7, 0, 0);
        x.ticks(1);
        due(x.folkOf(0, 1, 0), 7);
        due(x.folkOf(1, 1, 0), 3);
        due(x.ticks(1), 0);
        due(x.folkOf(1, 1, 0), 7);
        due(x.ticks(2), 10);
        due(x.ticks(1), 4);
        // folk by numbers: folk 0 has the link first, wherever it is
        CrowdOut y = line(5, 1, 5, 1);
        y.folk(1, 4, 2, 0);
        y.folk(1, 4, 2, 0);
        y.ticks(1);
        due(y.folkOf(0, 0, 1), 0);
        due(y.folkOf(1, 0, 1), 3);
        // who came in this tick does not go on in it
        CrowdOut z = line(9, 1, 9, 1);
        z.folk(0, 9, 2, 0);
        z.folk(1, 2, 2, 0);
        z.ticks(2);
        due(z.folkOf(0, 0, 1), 9);
        due(z.ticks(1), 0);
        due(z.folkOf(0, 1, 1), 9);
        // of one folk those who were there go, those who came wait
        CrowdOut w = line(4, 1, 9, 1);
        w.folk(0, 8, 2, 0);
        w.ticks(3);
        due(w.folkOf(0, 0, 1), 4);
        due(w.folkOf(0, 1, 1), 4);
    }

    private static void promise9Room() {
        about("promise 9, room");
        // ROOM 7 at PACE 150: 10 (cut), those on the way to it counted
        CrowdOut x = new CrowdOut();
        x.area(0, 100);
        x.area(2, 7);
        x.area(3, 1);
        x.link(0, 1, 4, 3);
        x.link(1, 2, 1, 1);
        x.folk(0, 50, 2, 0);
        x.ticks(3);
        due(x.folkOf(0, 1, 0), 10);
        due(x.folkOf(0, 0, 0), 40);
        x.ticks(1);
        due(x.areaOf(1, 2), 4);
        due(x.folkOf(0, 1, 0), 6);
        x.ticks(1);
        // folk 0 in area 0 is asked ahead of folk 0 in area 1, so it does not see yet that one leaves
        due(x.folkOf(0, 0, 0), 40);
        due(x.areaOf(1, 2), 7);
        x.ticks(1);
        due(x.folkOf(0, 0, 0), 39);
        // a goal has no bound
        CrowdOut y = line(9, 1, 999, 1);
        y.folk(1, 50, 2, 0);
        due(y.ticks(2), 50);
        // below PACE there is no room at all
        CrowdOut z = line(99, 1, 1, 1);
        z.set(0, 300);
        z.folk(1, 50, 2, 0);
        z.folk(0, 99, 2, 0);
        z.ticks(2);
        due(z.areaOf(1, 2), 147);
        z.folk(0, 9, 2, 0);
        z.set(0, 100);
        z.ticks(5);
        due(z.folkOf(2, 0, 0), 9);
    }

    private static void promise9Kin() {
        about("promise 9, KIN");
        CrowdOut x = line(10, 1, 10, 1);
        x.folk(0, 4, 2, 0);
        x.folk(0, 7, 2, 1);
        x.folk(0, 6, 2, 1);
        x.ticks(1);
        due(x.folkOf(1, 0, 0), 7);
        due(x.folkOf(2, 1, 0), 6);
        // more than WIDE and something was taken: it stays; nothing was taken: it goes whole, and WIDE is used up
        CrowdOut y = line(10, 1, 10, 1);
        y.folk(0, 1, 2, 0);
        y.folk(0, 11, 2, 1);
        y.folk(0, 1, 2, 0);
        y.ticks(1);
        due(y.folkOf(1, 0, 0), 11);
        due(y.folkOf(2, 1, 0), 1);
        y.ticks(1);
        due(y.folkOf(1, 1, 0), 11);
        // as many as WIDE with something taken: not
        CrowdOut z = line(10, 1, 10, 1);
        z.folk(0, 1, 2, 0);
        z.folk(0, 10, 2, 1);
        z.ticks(1);
        due(z.folkOf(1, 0, 0), 10);
        z.ticks(1);
        due(z.folkOf(1, 1, 0), 10);
        // room must be for all: 75 less 30
        CrowdOut w = line(10, 1, 1, 1);
        w.folk(0, 46, 2, 1);
        w.folk(0, 45, 2, 1);
        w.folk(1, 30, 2, 0);
        w.ticks(1);
        due(w.folkOf(0, 0, 0), 46);
        due(w.folkOf(1, 1, 0), 45);
        w.ticks(1);
        due(w.folkOf(0, 0, 0), 46);
        due(w.folkOf(1, 0, 1), 45);
    }

    private static void promise9WayOnAtThatMoment() {
        about("promise 9, WAY ON");
        // 1 is tight as the tick begins; folk 0 leaves it, so that folk 1 goes by it and not by 3
        CrowdOut x = new CrowdOut();
        x.area(0, 50);
        x.area(1, 10);
        x.area(3, 1);
        x.area(1, 50);
        x.link(0, 1, 20, 1);
        x.link(1, 2, 20, 1);
        x.link(0, 3, 20, 2);
        x.link(3, 2, 20, 2);
        x.folk(1, 10, 2, 0);
        x.folk(0, 5, 2, 0);
        due(x.next(0, 2, false), 2);
        x.ticks(1);
        due(x.folkOf(1, 1, 0), 5);
        // the other way about the same folk is asked while 1 is still tight
        CrowdOut y = new CrowdOut();
        y.area(0, 50);
        y.area(1, 10);
        y.area(3, 1);
        y.area(1, 50);
        y.link(0, 1, 20, 1);
        y.link(1, 2, 20, 1);
        y.link(0, 3, 20, 2);
        y.link(3, 2, 20, 2);
        y.folk(0, 5, 2, 0);
        y.folk(1, 10, 2, 0);
        y.ticks(1);
        due(y.folkOf(0, 1, 2), 5);
        // the way on is full: they wait and take no other
        CrowdOut z = line(3, 1, 9, 1);
        z.link(0, 2, 9, 9);
        z.folk(0, 5, 2, 0);
        z.ticks(1);
        due(z.folkOf(0, 0, 0), 2);
        due(z.folkOf(0, 1, 2), 0);
        // wheels do not go by steps
        CrowdOut w = line(9, 1, 9, 1);
        w.linkSet(1, 2, 1);
        w.folk(1, 5, 2, 2);
        w.folk(1, 5, 2, 0);
        w.ticks(2);
        due(w.folkOf(0, 0, 1), 5);
        due(w.folkOf(1, 2, 0), 5);
    }

    private static void promise9Turned() {
        about("promise 9, TURN");
        // turned on tick 2, while it is on its way to the stair; it comes there on 3 and is home on 6
        CrowdOut x = line(9, 2, 9, 3);
        x.folk(0, 5, 2, 0);
        order(x, "t=1:b00");
        order(x, "t=8:b00");
        x.ticks(3);
        due(x.folkOf(0, 0, 1), 5);
        x.ticks(2);
        due(x.folkOf(0, 1, 0), 5);
        x.ticks(1);
        due(x.folkOf(0, 0, 0), 5);
        x.ticks(2);
        due(x.folkOf(0, 0, 0), 5);
        // turned back on 9: it goes on in the same tick
        x.ticks(1);
        due(x.folkOf(0, 1, 0), 5);
        due(x.ticks(6), 5);
        // who comes to the goal while turned is in the area, and goes home from there
        CrowdOut y = line(9, 1, 9, 3);
        y.folk(1, 5, 2, 0);
        order(y, "t=2:b00");
        due(y.ticks(4), 0);
        due(y.folkOf(0, 0, 2), 5);
        due(y.areaOf(2, 2), 5);
        due(y.areaOf(2, 3), 0);
        due(y.total(4), 5);
        y.ticks(4);
        due(y.folkOf(0, 0, 1), 5);
        // who is out stays out
        CrowdOut z = line(9, 1, 9, 1);
        z.folk(1, 5, 2, 0);
        order(z, "t=5:b00");
        z.ticks(9);
        due(z.folkOf(0, 2, 0), 5);
    }

    private static void promise10AreaOf() {
        about("promise 10");
        CrowdOut x = new CrowdOut();
        x.area(2, 30);
        x.area(3, 7);
        x.area(0, 99);
        due(x.areaOf(3, 8), -1);
        due(x.areaOf(-1, 0), -1);
        due(x.areaOf(0, 8), -2);
        due(x.areaOf(0, -1), -2);
        x.link(2, 0, 99, 1);
        x.link(0, 1, 1, 1);
        x.folk(2, 38, 1, 0);
        due(x.areaOf(0, 0), 2);
        due(x.areaOf(0, 1), 30);
        due(x.areaOf(0, 2), 0);
        due(x.areaOf(2, 3), 38);
        due(x.areaOf(2, 6), 0);
        due(x.areaOf(0, 7), -9);
        x.ticks(2);
        // 38 of 30: 126
        due(x.areaOf(0, 2), 38);
        due(x.areaOf(0, 3), 126);
        due(x.areaOf(0, 4), 1);
        x.ticks(1);
        due(x.areaOf(0, 3), 123);
        due(x.areaOf(0, 4), 2);
        due(x.areaOf(0, 5), 0);
        x.ticks(1);
        // 36 of 30: 120, the third tick: 1 falls
        due(x.areaOf(0, 3), 120);
        due(x.areaOf(0, 4), 3);
        due(x.areaOf(0, 5), 1);
        due(x.areaOf(0, 7), 4);
        x.ticks(1);
        due(x.areaOf(0, 3), 116);
        due(x.areaOf(0, 4), 0);
        due(x.areaOf(0, 5), 1);
        due(x.areaOf(0, 6), 126);
        due(x.areaOf(0, 7), 4);
        due(x.areaOf(1, 6), 0);
        // no more fall than there are heads that have not fallen: 3 of 1 is a press of 300, 19 a tick
        CrowdOut y = new CrowdOut();
        y.area(0, 9);
        y.area(1, 1);
        y.area(3, 1);
        y.set(0, 300);
        y.link(0, 1, 9, 1);
        y.link(1, 2, 1, 1);
        y.linkSet(1, 0, 1);
        y.folk(0, 3, 2, 0);
        y.linkSet(1, 1, 2);
        y.link(1, 2, 1, 9);
        y.ticks(1);
        y.linkSet(2, 0, 0);
        y.ticks(3);
        due(y.areaOf(1, 4), 3);
        due(y.areaOf(1, 5), 3);
        y.ticks(1);
        due(y.areaOf(1, 5), 3);
        due(y.areaOf(1, 4), 4);
        // those who fell go on
        y.linkSet(2, 0, 1);
        due(y.ticks(12), 3);
        due(y.areaOf(1, 5), 3);
        due(y.areaOf(1, 4), 0);
        due(y.total(6), 3);
    }

    private static void promise11FolkOf() {
        about("promise 11");
        CrowdOut x = line(4, 2, 4, 1);
        due(x.folkOf(0, 0, 0), -1);
        x.folk(0, 6, 2, 0);
        due(x.folkOf(0, 0, 3), -1);
        due(x.folkOf(0, 0, -1), -1);
        due(x.folkOf(0, 1, 2), -1);
        due(x.folkOf(0, 1, -1), -1);
        due(x.folkOf(0, 2, -1), 0);
        due(x.folkOf(0, 5, 0), -2);
        due(x.folkOf(0, -1, 99), -2);
        due(x.folkOf(1, 9, 0), -1);
        due(x.folkOf(0, 3, 99), 2);
        due(x.folkOf(0, 4, 0), -9);
        x.ticks(2);
        due(x.folkOf(0, 1, 0), 6);
        due(x.folkOf(0, 0, 0), 0);
        x.ticks(3);
        due(x.folkOf(0, 2, 0), 4);
        due(x.folkOf(0, 4, 0), -9);
        x.ticks(1);
        due(x.folkOf(0, 2, 0), 6);
        due(x.folkOf(0, 4, 0), 6);
        x.ticks(3);
        due(x.folkOf(0, 4, 0), 6);
        // both ways on one link: one part goes on, the rest is turned back from the stair
        CrowdOut y = line(3, 4, 9, 9);
        y.folk(0, 9, 2, 0);
        order(y, "t=5:b00");
        y.ticks(6);
        due(y.folkOf(0, 1, 0), 3 + 0 + 3);
        due(y.folkOf(0, 1, 1), 0);
        due(y.folkOf(0, 0, 1), 3);
    }

    private static void promise12Next() {
        about("promise 12");
        CrowdOut x = new CrowdOut();
        x.area(0, 10);
        x.area(1, 10);
        x.area(3, 10);
        x.area(1, 10);
        due(x.next(4, 2, false), -1);
        due(x.next(0, 0, false), -1);
        due(x.next(0, 4, false), -1);
        due(x.next(-1, 2, true), -1);
        due(x.next(0, 2, false), -9);
        due(x.next(2, 2, false), -9);
        x.link(3, 2, 1, 2);
        x.link(0, 3, 1, 2);
        x.link(1, 0, 1, 3);
        x.link(2, 1, 1, 1);
        // both ways take 4: the link of the least number
        due(x.next(0, 2, false), 1);
        due(x.next(1, 2, false), 3);
        due(x.next(3, 2, false), 0);
        x.link(0, 2, 1, 4);
        due(x.next(0, 2, false), 1);
        x.linkSet(1, 1, 2);
        due(x.next(0, 2, false), 2);
        x.linkSet(2, 2, 1);
        due(x.next(0, 2, true), 4);
        due(x.next(0, 2, false), 2);
        x.linkSet(2, 1, 1);
        due(x.next(0, 2, false), 4);
        x.linkSet(4, 0, 0);
        due(x.next(0, 2, false), -9);
        x.linkSet(1, 1, 1);
        due(x.next(0, 2, true), 1);
        // tight: 3 is full
        x.linkSet(4, 0, 1);
        x.folk(3, 10, 2, 0);
        due(x.next(0, 2, false), 4);
        // of two links between the same areas the sooner, then the lesser
        CrowdOut y = line(1, 3, 1, 1);
        y.link(1, 0, 1, 2);
        y.link(1, 0, 1, 2);
        due(y.next(0, 2, false), 2);
    }

    private static void promise13Walk() {
        about("promise 13");
        CrowdOut x = line(9, 2, 9, 3);
        due(x.walk(3, 2, false), -1);
        due(x.walk(0, 1, false), -1);
        due(x.walk(0, 2, false), 5);
        due(x.walk(1, 2, true), 3);
        due(x.walk(2, 2, true), 0);
        x.linkSet(0, 2, 1);
        due(x.walk(0, 2, true), -9);
        due(x.walk(0, 2, false), 5);
        // the press of the area where a link ends, not of the one where it begins; of a goal there is none
        x.folk(0, 100, 2, 0);
        due(x.walk(0, 2, false), 5);
        x.folk(1, 49, 2, 0);
        due(x.walk(0, 2, false), 5);
        x.folk(1, 1, 2, 0);
        due(x.walk(0, 2, false), 10);
        due(x.walk(1, 2, false), 3);
        x.linkSet(1, 0, 0);
        due(x.walk(0, 2, false), -9);
        due(x.walk(2, 2, false), 0);
    }

    private static void promise14Feed() {
        about("promise 14");
        CrowdOut x = new CrowdOut();
        due(x.feed(0, 1), -4);
        due(x.feed(-3, 1), -4);
        due(x.feed(9, 1), -6);
        due(x.feed(1, -1L), 1);
        due(x.feed(8, Long.MIN_VALUE), 9);
        for (int i = 0; i < 13; i++) due(x.feed(8, 0), 17 + 8 * i);
        due(x.feed(8, 0), -6);
        due(x.feed(7, 0), 120);
        due(x.feed(1, 0), -6);
        due(x.total(17), 120);
        due(x.total(16), 3);
        // the lowest byte first, those above n are not fed
        CrowdOut y = new CrowdOut();
        due(y.feed(3, 0x7878303e74L), 3);
        due(y.feed(4, 0x78_30_30_6f_3aL), 7);
        due(y.order(1), 0);
    }

    private static void promise15Order() {
        about("promise 15");
        CrowdOut x = new CrowdOut();
        tape(x, "t=1:o00");
        due(x.order(2), -2);
        due(x.order(-1), -2);
        due(x.total(17), 7);
        due(x.order(0), 0);
        due(x.total(17), 0);
        due(x.total(9), 0);
        due(order(x, "t=1:o00"), 1);
        due(x.total(9), 1);
        due(x.order(1), -20);
        String[] bad = {
            "", "t", "t=", "t=1", "t=1:", "t=1:o", "t=1:o0", "t=1:o00;", "t=1:o00;b1", "(", "(t=1", "!", "p0", "p",
            "t=1|", "t=1&", "t+", "t=12345", "((((t=1", "t=1:o00;s01;k02;g03;b04;"};
        for (String text : bad) due(order(x, text), -20 - text.length());
        due(order(x, "t=1 :o00"), -23);
        due(order(x, "T=1:o00"), -20);
        due(order(x, "t=1:x00"), -24);
        due(order(x, "t=1:o000"), -27);
        due(order(x, "t=1:o00,"), -27);
        due(order(x, "t=1:o00:"), -27);
        due(order(x, "p1=1:o00"), -22);
        due(order(x, "p001=1:o00"), -23);
        due(order(x, "123456=1:o00"), -25);
        due(order(x, "12345=00000:o00"), 2);
        due(order(x, "t==1:o00"), -22);
        due(order(x, "t1=1:o00"), -21);
        due(order(x, "t=1=1:o00"), -23);
        due(order(x, "t=-1:o00"), -22);
        due(order(x, "(t+1)=1:o00"), -24);
        due(order(x, "t=1):o00"), -23);
        due(order(x, "(t=1:o00"), -24);
        due(order(x, "(t=1))&t=1:o00"), -25);
        due(order(x, "t:o00"), -21);
        due(order(x, ":o00"), -20);
        due(order(x, "!!!!t=1:o00"), 3);
        due(order(x, "!!!!!t=1:o00"), -24);
        due(order(x, "!(!(t=1)):o00"), 4);
        due(order(x, "!(!(t=1)&(!t=2)):o00"), 5);
        due(order(x, "!(!(!t=1)):o00"), -24);
        due(order(x, "t=1|(((((t=1))))):o00"), -28);
        due(order(x, "!t=1&!t=2&!t=3|!t=4&!t=5:o00"), 6);
        due(order(x, "(t=1)&(t=2)|(t=3)&((t=4)|t=5):o00"), 7);
        due(order(x, "t=1:o00\u0000"), -27);
        due(order(x, "t=1:o00\u00ff"), -27);
        due(x.total(12), 2);
        due(x.total(16), 0);
        for (int i = 8; i < 12; i++) due(order(x, "t=1:o00"), i);
        tape(x, "t=1:");
        due(x.order(3), -2);
        due(x.order(1), -6);
        due(x.total(17), 4);
        // 120 bytes that are an order, and 120 to which something lacks
        StringBuilder full = new StringBuilder("t=1+1:o00");
        while (full.length() < 117) full.append(";o00");
        full.insert(2, "000");
        CrowdOut y = new CrowdOut();
        due(full.length(), 120);
        due(order(y, full.toString()), 0);
        due(order(y, full.substring(1) + ";"), -20);
        due(order(y, "0" + full.substring(1, 119) + ";"), -139);
        StringBuilder lacks = new StringBuilder("10+");
        while (lacks.length() < 120) lacks.append("11+");
        due(order(y, lacks.toString()), -140);
    }

    private static void promise16Stand() {
        about("promise 16");
        CrowdOut x = line(1, 1, 1, 1);
        due(x.stand(0, true), -1);
        tape(x, "t>1:o00");
        due(x.order(0), 0);
        due(x.stand(0, false), 0);
        due(x.stand(1, true), -1);
        due(x.stand(-1, true), -1);
        x.ticks(4);
        due(x.total(10), 0);
        due(x.stand(0, true), 1);
        due(x.stand(0, true), 0);
        due(x.total(9), 1);
        // it was not asked as the tick ahead ended
        x.ticks(1);
        due(x.total(10), 1);
        x.ticks(1);
        due(x.total(10), 1);
        // struck and put back between two ticks: it was asked as the last one ended
        x.stand(0, false);
        x.stand(0, true);
        x.ticks(1);
        due(x.total(10), 1);
        x.stand(0, false);
        x.ticks(1);
        x.stand(0, true);
        x.ticks(1);
        due(x.total(10), 2);
    }

    private static void promise17Holds() {
        about("promise 17");
        CrowdOut x = line(9, 1, 4, 1);
        x.folk(0, 60, 2, 0);
        x.folk(1, 50, 2, 0);
        due(x.holds(0), -1);
        String[] tests = {
            "t=0", "t<1&t>1", "t>1|t=0", "p01=100", "h00=60", "h99=0", "p20+u99+l99+w99=0", "1-2-3=0-4",
            "t=1&t=1|t=0", "t=0|t=1&t=1", "!t=0|t=0", "!(t=0|t=0)"};
        int[] worth = {1, 0, 1, 1, 1, 1, 1, 1, 1, 1, 1, 0};
        for (int i = 0; i < tests.length; i++) {
            tape(x, tests[i] + ":o00");
            due(x.order(0), i);
            due(x.holds(i), worth[i]);
        }
        due(x.holds(12), -1);
        due(x.holds(-1), -1);
        x.ticks(1);
        due(x.holds(0), 0);
        due(x.holds(3), 0);
        // what went in this tick, what waits, push
        CrowdOut y = new CrowdOut();
        y.area(0, 100);
        y.area(1, 10);
        y.area(3, 10);
        y.link(0, 1, 99, 1);
        y.link(1, 2, 1, 1);
        y.folk(0, 30, 2, 0);
        y.set(0, 300);
        order(y, "l00=30:o09");
        order(y, "w02=1:o09");
        order(y, "u01=2:o09");
        order(y, "l01=1&h01=29&p01=290:o09");
        y.ticks(1);
        due(y.holds(0), 1);
        y.ticks(1);
        due(y.holds(0), 0);
        due(y.holds(3), 0);
        y.ticks(1);
        due(y.holds(1), 0);
        due(y.holds(2), 1);
        due(y.holds(3), 1);
        y.ticks(1);
        due(y.holds(1), 1);
        due(y.holds(2), 0);
        y.train(2, 5, 1, 1);
        y.ticks(1);
        due(y.holds(1), 1);
        y.ticks(1);
        due(y.holds(1), 1);
        y.train(2, 7, 1, 1);
        y.ticks(1);
        due(y.holds(1), 0);
    }

    private static void promise18Given() {
        about("promise 18");
        CrowdOut x = line(9, 1, 9, 1);
        x.folk(0, 5, 2, 0);
        x.train(2, 9, 1, 1);
        x.linkSet(1, 3, 4);
        due(order(x, "t=2:s01;k00;b00;o30;s00"), 0);
        due(order(x, "t=2:g00"), 1);
        due(x.given(0, -1), -2);
        due(x.given(0, 5), -2);
        due(x.given(-1, 5), -2);
        due(x.given(-1, 0), -9);
        due(x.given(0, 0), -9);
        x.ticks(2);
        due(x.total(10), 6);
        int[][] want = {
            {0, 2, 2, 1, 7}, {0, 2, 3, 0, 3}, {0, 2, 5, 0, 3}, {0, 2, 1, 30, 3}, {0, 2, 2, 0, 3}, {1, 2, 4, 0, 3}};
        due(x.hold(0, false), 0);
        x.ticks(1);
        // k00, then g00: the train goes; s00 is heard, s01 not yet
        due(x.hold(0, false), 0);
        due(x.linkSet(0, 0, 1), 0);
        due(x.linkSet(1, 0, 1), 1);
        x.ticks(3);
        due(x.linkSet(1, 0, 1), 1);
        x.ticks(1);
        due(x.linkSet(1, 0, 1), 0);
        for (int i = 0; i < 6; i++) for (int what = 0; what < 5; what++) due(x.given(i, what), want[i][what]);
        due(x.given(6, 0), -9);
        due(x.given(200, 0), -9);
        due(x.given(Integer.MAX_VALUE, 4), -9);
        // given anew only when it did not hold as the tick ahead ended
        CrowdOut y = line(9, 1, 9, 1);
        order(y, "t<3|t=5:k07");
        y.ticks(2);
        due(y.total(10), 1);
        y.ticks(2);
        due(y.total(10), 1);
        y.ticks(1);
        due(y.total(10), 2);
        due(y.given(1, 1), 5);
        // heard on a tick, done ahead of those who go in it
        CrowdOut z = line(9, 1, 9, 1);
        z.folk(0, 9, 2, 0);
        z.linkSet(0, 0, 0);
        order(z, "t=1:o00");
        z.ticks(1);
        due(z.folkOf(0, 1, 0), 0);
        z.ticks(1);
        due(z.folkOf(0, 1, 0), 9);
        // what there is not when it is heard does nothing; what has come by then is done
        CrowdOut w = line(9, 1, 9, 1);
        order(w, "t=1:s02;s03");
        w.ticks(1);
        w.link(0, 1, 1, 1);
        w.ticks(1);
        due(w.linkSet(2, 0, 1), 0);
        due(w.given(0, 4), 2);
    }

    private static void promise18Beyond200() {
        about("promise 18, 200");
        CrowdOut x = line(9, 1, 9, 1);
        StringBuilder acts = new StringBuilder("t=0|t>0:s00");
        for (int i = 0; i < 26; i++) acts.append(";o00");
        due(order(x, acts.toString()), 0);
        for (int i = 0; i < 8; i++) {
            x.ticks(1);
            due(x.total(10), Math.min(200, 27 * (i + 1)));
            x.stand(0, false);
            x.ticks(1);
            x.stand(0, true);
        }
        due(x.given(199, 0), 0);
        due(x.given(199, 1), 15);
        due(x.given(200, 1), -9);
        // what is beyond 200 is not done
        order(x, "t>20:s01");
        x.ticks(20);
        due(x.total(10), 200);
        due(x.linkSet(1, 0, 1), 1);
        // nor in an emptying
        x.folk(0, 9, 2, 0);
        order(x, "t>37:s00");
        due(x.out(-1, 0), 4);
    }

    private static void promise19Counted() {
        about("promise 19");
        CrowdOut x = line(9, 1, 9, 1);
        due(x.counted(2, 9, -1), -1);
        due(x.counted(0, 1, -1), -3);
        due(x.counted(0, 0, -1), -4);
        due(x.counted(0, -1, 0), -4);
        due(x.counted(0, 0, 100000), -6);
        due(x.counted(0, 0, 99999), 1);
        x.ticks(5);
        due(x.counted(0, 6, 0), -3);
        for (int i = 2; i <= 60; i++) due(x.counted(i % 2, 5, i), i);
        due(x.counted(0, 0, 0), -6);
        due(x.counted(0, 6, 0), -3);
        due(x.counted(0, 0, -1), -4);
    }

    private static void promise20Count() {
        about("promise 20");
        CrowdOut x = line(9, 1, 9, 1);
        due(x.count(2, -1, 0), -1);
        due(x.count(0, -1, 1000), -4);
        due(x.count(0, 0, -1), -4);
        due(x.count(0, 1000, 0), -6);
        due(x.count(0, 0, 1000), -6);
        due(x.count(0, 999, 999), -9);
        x.ticks(3);
        x.counted(0, 2, 7);
        x.ticks(2);
        x.counted(0, 2, 8);
        x.counted(0, 2, 9);
        x.counted(1, 2, 4);
        x.counted(0, 3, 5);
        due(x.count(0, 2, 2), -9);
        due(x.count(0, 2, 3), 7);
        due(x.count(0, 2, 4), 7);
        due(x.count(0, 2, 5), 9);
        due(x.count(0, 2, 999), 9);
        due(x.count(1, 2, 5), 4);
        due(x.count(0, 3, 5), 5);
        due(x.count(1, 3, 5), -9);
    }

    private static void promise21Wrong() {
        about("promise 21");
        CrowdOut x = line(9, 1, 4, 1);
        x.folk(0, 20, 2, 0);
        due(x.wrong(2, -1), -1);
        due(x.wrong(0, -1), -4);
        due(x.wrong(0, 1000), -6);
        due(x.wrong(0, 999), 0);
        x.ticks(4);
        // link 0: 9, 9, 2, 0 on ticks 1 to 4; link 1: 0, 0, 4, 4
        x.counted(0, 1, 7);
        x.counted(0, 0, 3);
        x.counted(1, 4, 9);
        due(x.wrong(0, 3), 0);
        due(x.wrong(0, 4), 2 + 3);
        due(x.wrong(1, 4), 5);
        x.ticks(1);
        x.counted(0, 1, 11);
        x.counted(0, 3, 0);
        x.counted(0, 4, 1);
        due(x.wrong(0, 4), 5);
        due(x.wrong(0, 5), 2 + 3 + 2 + 1);
        x.counted(0, 1, 9);
        due(x.wrong(0, 5), 3 + 2 + 1);
        due(x.wrong(0, 999), 6);
        // both ways together
        CrowdOut y = new CrowdOut();
        y.area(3, 50);
        y.area(3, 50);
        y.link(0, 1, 10, 1);
        y.folk(0, 3, 1, 0);
        y.folk(1, 4, 0, 0);
        y.ticks(1);
        y.counted(0, 1, 0);
        due(y.wrong(0, 1), 7);
        // on the last tick of all, and of one head
        y.ticks(997);
        y.folk(0, 1, 1, 0);
        y.linkSet(0, 4, 1);
        y.ticks(1);
        y.counted(0, 999, 0);
        due(y.wrong(0, 998), 7);
        due(y.wrong(0, 999), 8);
        due(y.wrong(0, 0), 0);
    }

    private static void promise22Out() {
        about("promise 22");
        CrowdOut x = line(20, 2, 30, 1);
        due(x.out(-2, 9), -1);
        due(x.out(2, 0), -1);
        due(x.out(-1, 4), -2);
        due(x.out(1, -1), -2);
        due(x.out(-1, 0), 0);
        due(x.out(-1, 1), 0);
        due(x.out(-1, 2), -9);
        due(x.out(-1, 3), 0);
        x.folk(0, 90, 2, 0);
        due(x.out(-1, 0), 9);
        due(x.out(-1, 1), 70);
        due(x.out(-1, 2), 0);
        due(x.out(0, 0), -9);
        due(x.out(0, 1), 90);
        due(x.out(1, 0), -9);
        // there is no way on, so nobody goes
        due(x.out(1, 1), 90);
        due(x.out(1, 2), 0);
        // nothing changes by it
        due(x.total(0), 0);
        due(x.areaOf(1, 6), 0);
        due(x.total(6), 0);
        due(x.folkOf(0, 0, 0), 90);
        // who is on the blocked link still comes
        x.ticks(5);
        due(x.out(0, 0), 4);
        due(x.out(1, 0), -9);
        // no press at all: the least area on the first tick
        CrowdOut y = new CrowdOut();
        y.area(3, 5);
        y.area(3, 5);
        y.link(0, 1, 5, 2);
        y.folk(1, 5, 0, 0);
        due(y.out(-1, 0), 3);
        due(y.out(-1, 1), 0);
        due(y.out(-1, 2), 0);
        // two areas with the same press: the least; on the first such tick
        CrowdOut z = new CrowdOut();
        z.area(3, 1);
        z.area(0, 20);
        z.area(0, 10);
        z.link(1, 0, 3, 1);
        z.link(2, 0, 1, 1);
        z.folk(1, 19, 0, 0);
        z.folk(2, 9, 0, 0);
        due(z.out(-1, 1), 80);
        due(z.out(-1, 2), 1);
        // exactly 300 ticks, and one more
        CrowdOut w = new CrowdOut();
        w.area(3, 1);
        w.area(0, 400);
        w.link(1, 0, 1, 1);
        w.folk(1, 299, 0, 0);
        due(w.out(-1, 0), 300);
        w.folk(1, 1, 0, 0);
        due(w.out(-1, 0), -9);
        // beyond tick 999
        w.ticks(1);
        due(w.out(-1, 0), 300);
        w.linkSet(0, 0, 0);
        w.ticks(998);
        due(w.total(0), 999);
        w.linkSet(0, 0, 1);
        due(w.out(-1, 0), 300);
        due(w.ticks(1), -6);
    }

    private static void promise22GoesOn() {
        about("promise 22, orders");
        // what was given and is not yet heard shuts the link on tick 6
        CrowdOut x = line(5, 1, 5, 1);
        x.folk(0, 50, 2, 0);
        x.linkSet(0, 3, 3);
        order(x, "t=2:s00");
        due(x.out(-1, 0), -9);
        x.ticks(2);
        due(x.out(-1, 0), -9);
        // and an order opens it again: t=20 is heard on 24; 25 went on 1 to 5
        order(x, "t=20:o00");
        due(x.out(-1, 0), 24 + 4 + 3 - 2);
        due(x.total(10), 1);
        due(x.linkSet(0, 0, 1), 1);
        // turned folk is over at home
        CrowdOut y = line(5, 3, 5, 1);
        y.folk(0, 5, 2, 0);
        order(y, "t=2:b00");
        due(y.out(-1, 0), 8);
        y.ticks(3);
        due(y.out(-1, 0), 5);
        // one who is turned at home on the first tick is over then
        CrowdOut z = line(5, 3, 5, 1);
        z.folk(0, 5, 2, 0);
        z.linkSet(0, 0, 0);
        order(z, "t=1:b00");
        due(z.out(-1, 0), 2);
        z.ticks(2);
        due(z.out(-1, 0), 0);
        due(z.out(-1, 2), -9);
        // trains go on: what waits is taken, on which an order hangs
        CrowdOut w = line(9, 1, 9, 1);
        w.folk(1, 9, 2, 0);
        w.folk(0, 9, 2, 0);
        w.linkSet(0, 0, 0);
        w.train(2, 10, 1, 9);
        order(w, "t>3&w02=0:o00");
        due(w.out(-1, 0), 10 + 1 + 3);
        w.hold(0, true);
        due(w.out(-1, 0), -9);
        // what waits now waits in it; what is to be heard is heard, though its order is struck and nobody stirs
        CrowdOut v = line(9, 1, 9, 1);
        v.folk(1, 9, 2, 0);
        v.ticks(2);
        order(v, "w02>8:b01;o01");
        v.folk(0, 9, 2, 0);
        v.folk(0, 8, 2, 0);
        v.linkSet(0, 0, 0);
        v.linkSet(1, 3, 20);
        v.ticks(1);
        v.stand(0, false);
        v.linkSet(1, 0, 0);
        v.linkSet(0, 0, 1);
        due(v.out(-1, 0), 21 + 4 - 1);
        v.linkSet(1, 3, 0);
        due(v.out(-1, 0), 24);
        v.ticks(1);
        due(v.out(-1, 0), 23);
        // it is over as soon as who is at home is turned, though nobody came and no order stands any more
        CrowdOut u = line(5, 3, 5, 1);
        u.folk(0, 5, 2, 0);
        u.linkSet(0, 0, 0);
        order(u, "t=1:b00");
        u.ticks(1);
        u.stand(0, false);
        due(u.out(-1, 0), 1);
        due(u.out(-1, 1), 5);
    }

    /** Answers are kept while nothing changes: each change must be seen. */
    private static void promise22AfterEachChange() {
        about("promise 22, after a change");
        CrowdOut x = line(10, 1, 10, 1);
        x.folk(0, 40, 2, 0);
        due(x.out(-1, 0), 7);
        due(x.out(-1, 1), 30);
        due(x.worst(1), -9);
        x.linkSet(0, 4, 20);
        due(x.out(-1, 0), 7);
        x.linkSet(1, 4, 20);
        due(x.out(-1, 0), 5);
        x.link(0, 2, 40, 1);
        due(x.out(-1, 0), 2);
        due(x.worst(0), 2);
        due(x.worst(1), 5);
        x.linkSet(2, 0, 0);
        x.set(0, 100);
        due(x.out(-1, 0), 5);
        x.folk(1, 50, 2, 0);
        tape(x, "t=1:s01");
        x.order(0);
        due(x.out(-1, 0) > 0 ? 1 : 0, 1);
        x.stand(0, true);
        due(x.out(-1, 0), -9);
        due(x.design(300, 999, 0), -9);
        x.stand(0, false);
        due(x.out(-1, 0) > 0 ? 1 : 0, 1);
        order(x, "w02>9&t<99:s01");
        due(x.out(-1, 0), -9);
        x.train(2, 1, 1, 9999);
        due(x.out(-1, 0) > 0 ? 1 : 0, 1);
        x.hold(0, true);
        due(x.out(-1, 0), -9);
        x.stand(1, false);
        int all = x.out(-1, 0);
        x.ticks(1);
        due(x.out(-1, 0), all - 1);
        CrowdOut z = line(100, 1, 1, 1);
        z.folk(0, 100, 2, 0);
        due(z.out(-1, 1), 150);
        z.set(0, 100);
        due(z.out(-1, 1), 100);
        CrowdOut y = new CrowdOut();
        y.area(3, 1);
        y.area(0, 9);
        y.folk(1, 9, 0, 0);
        due(y.worst(0), -9);
        due(y.design(9, 999, 0), -9);
        y.link(0, 1, 9, 1);
        due(y.worst(0), 0);
        due(y.design(9, 999, 0), -9);
        y.link(0, 1, 9, 1);
        due(y.design(9, 999, 0), 0);
        due(y.design(9, 999, 2), 2);
        y.linkSet(1, 0, 0);
        due(y.design(9, 999, 0), -9);
        y.option(1, 0, 1);
        due(y.design(9, 999, 0), 1);
        due(y.design(1, 999, 0), -9);
        due(y.design(2, 999, 0), 1);
    }

    /** Whichever two changes come between two questions, the answers are as if it had not been asked ahead of them. */
    private static void promise22AfterAnyTwoChanges() {
        Call[] changes = {
            x -> x.area(0, 9), x -> x.link(0, 2, 9, 2), x -> x.linkSet(1, 4, 3), x -> x.folk(0, 7, 2, 0),
            x -> x.train(2, 3, 1, 5), x -> x.hold(0, true), x -> x.set(0, 100), x -> x.ticks(1),
            x -> order(x, "h01>20:s00"), x -> x.stand(0, true), x -> x.option(0, 4, 30)};
        for (int i = 0; i < changes.length; i++) {
            for (int j = 0; j < changes.length; j++) {
                about("promise 22, after the changes " + i + " and " + j);
                CrowdOut asked = twoWays();
                answers(asked);
                CrowdOut unasked = twoWays();
                changes[i].on(asked);
                changes[i].on(unasked);
                changes[j].on(asked);
                changes[j].on(unasked);
                int[] got = answers(asked);
                int[] want = answers(unasked);
                for (int k = 0; k < want.length; k++) due("answer " + k, got[k], want[k]);
            }
        }
    }

    /** A ground on which nearly every change alters how it empties: of its orders one stands and hangs on the train. */
    private static CrowdOut twoWays() {
        CrowdOut x = line(10, 1, 8, 1);
        x.link(0, 2, 2, 4);
        x.folk(0, 40, 2, 0);
        x.folk(1, 9, 2, 1);
        x.train(2, 2, 2, 50);
        tape(x, "t=3:s01");
        x.order(0);
        order(x, "w02>12:s02;o01");
        return x;
    }

    private static int[] answers(CrowdOut x) {
        int[] all = new int[19];
        for (int what = 0; what < 4; what++) {
            all[what] = x.out(-1, what);
            all[4 + what] = x.out(0, what);
            all[8 + what] = x.out(1, what);
            all[12 + what] = x.design(60, 300, what);
        }
        for (int what = 0; what < 3; what++) all[16 + what] = x.worst(what);
        return all;
    }

    private static void promise22Fell() {
        about("promise 22, FELL");
        CrowdOut x = new CrowdOut();
        x.area(0, 100);
        x.area(1, 10);
        x.area(3, 10);
        x.link(0, 1, 99, 1);
        x.link(1, 2, 1, 1);
        x.folk(0, 30, 2, 0);
        x.set(0, 300);
        // the stair has 30 on tick 2, one less on each tick then; it falls from tick 4 (28: 280) to 20 (12: 120)
        int all = 0;
        for (int heads = 28; heads >= 12; heads--) all += Math.min(heads - 11, Math.max(0, heads - all));
        due(x.out(-1, 3), all);
        x.ticks(5);
        int fell = x.total(6);
        due(fell, 17 + 10);
        due(x.out(-1, 3), all - fell);
        due(x.out(-1, 3) + fell, all);
        due(x.total(6), fell);
        // stuck with a press: it falls on until 300, all of them at last
        CrowdOut y = new CrowdOut();
        y.area(0, 200);
        y.area(1, 100);
        y.area(3, 10);
        y.link(0, 1, 200, 1);
        y.link(1, 2, 1, 1);
        y.folk(0, 130, 2, 0);
        // 130: 2 a tick from tick 4 on
        due(y.out(1, 0), -9);
        due(y.out(1, 3), 0);
        y.ticks(1);
        y.linkSet(1, 0, 0);
        due(y.out(-1, 1), 130);
        due(y.out(-1, 3), 130);
        y.ticks(200);
        due(y.total(6), 130);
        due(y.out(-1, 3), 0);
        // 1 a tick, from the third on, till tick 300 and no further; the area of number 0
        CrowdOut z = new CrowdOut();
        z.area(1, 10000);
        z.area(0, 20000);
        z.area(3, 1);
        z.link(1, 0, 999, 1);
        z.link(0, 2, 1, 1);
        z.folk(0, 3000, 2, 1);
        z.folk(1, 9000, 2, 1);
        z.ticks(1);
        z.linkSet(1, 0, 0);
        due(z.out(-1, 3), 0);
        CrowdOut w = new CrowdOut();
        w.area(1, 1000);
        w.area(0, 2000);
        w.area(3, 1);
        w.link(1, 0, 999, 1);
        w.link(0, 2, 1, 9);
        w.folk(1, 1200, 2, 1);
        w.ticks(1);
        w.linkSet(1, 0, 0);
        due(w.out(-1, 0), -9);
        due(w.out(-1, 1), 120);
        due(w.out(-1, 3), 298);
        // PUSH is as it is now, and so are those who wait
        CrowdOut v = new CrowdOut();
        v.area(1, 1000);
        v.area(0, 2000);
        v.area(3, 1);
        v.link(1, 0, 999, 1);
        v.link(0, 2, 1, 9);
        v.folk(1, 1200, 2, 1);
        v.ticks(1);
        v.linkSet(1, 0, 0);
        v.ticks(2);
        due(v.out(-1, 3), 300);
        CrowdOut u = line(9, 1, 9, 1);
        u.folk(1, 9, 2, 0);
        u.ticks(2);
        u.folk(0, 9, 2, 0);
        u.linkSet(0, 0, 0);
        order(u, "w02=9&t=5:o00");
        due(u.out(-1, 0), 7);
        w.ticks(2);
        due(w.areaOf(0, 4), 2);
        due(w.out(-1, 3), 300);
        w.ticks(1);
        due(w.areaOf(0, 5), 1);
        due(w.total(6), 1);
        due(w.out(-1, 3), 300);
    }

    private static void promise23Worst() {
        about("promise 23");
        CrowdOut x = new CrowdOut();
        due(x.worst(3), -2);
        due(x.worst(-1), -2);
        for (int what = 0; what < 3; what++) due(x.worst(what), -9);
        x.area(0, 10);
        x.area(3, 10);
        x.area(1, 10);
        x.link(0, 1, 5, 1);
        for (int what = 1; what < 3; what++) due(x.worst(what), 0);
        due(x.worst(0), 0);
        x.link(0, 1, 5, 3);
        x.link(0, 1, 5, 2);
        x.folk(0, 10, 1, 0);
        // without 0 it goes by 2 in 4 ticks, without 1 or 2 by 0 in 3
        due(x.worst(0), 0);
        due(x.worst(1), 4);
        due(x.worst(2), 50);
        x.linkSet(2, 4, 9);
        due(x.worst(0), 0);
        due(x.worst(2), 10);
        // as many ticks: the greatest press
        x.link(2, 1, 1, 1);
        x.link(2, 1, 1, 3);
        x.folk(2, 2, 1, 0);
        due(x.out(0, 0), 4);
        due(x.out(3, 0), 5);
        due(x.worst(0), 3);
        due(x.worst(1), 5);
        // not within 300 is worse than all
        x.linkSet(4, 0, 0);
        due(x.worst(0), 3);
        due(x.worst(1), -9);
        due(x.worst(2), 50);
        // one that lasts 300, and a later one that never ends; then of two that last as long that with more press
        CrowdOut w = new CrowdOut();
        w.area(3, 1);
        w.area(0, 400);
        w.link(1, 0, 2, 1);
        w.link(1, 0, 1, 1);
        w.area(0, 40);
        w.link(2, 0, 40, 1);
        w.linkSet(0, 1, 1);
        w.linkSet(0, 1, 0);
        w.folk(1, 299, 0, 0);
        due(w.worst(0), 0);
        due(w.worst(1), 300);
        due(w.worst(2), 74);
        w.folk(2, 4, 0, 0);
        due(w.worst(0), 2);
        due(w.worst(1), -9);
        CrowdOut v = new CrowdOut();
        v.area(3, 1);
        v.area(0, 100);
        v.area(0, 100);
        v.link(1, 0, 10, 1);
        v.link(2, 0, 20, 1);
        v.folk(1, 30, 0, 0);
        v.folk(2, 40, 0, 0);
        due(v.worst(0), 1);
        due(v.worst(1), -9);
        due(v.worst(2), 40);
        v.area(1, 9);
        v.link(1, 3, 1, 9);
        v.link(1, 3, 1, 9);
        v.link(0, 1, 10, 2);
        v.link(0, 2, 10, 3);
        // without 0 it ends on 5, and a press of 20 or more; without 1, on 7, and one of 30
        due(v.out(0, 0), 5);
        due(v.out(1, 0), 7);
        due(v.worst(0), 1);
        due(v.worst(2), 30);
        CrowdOut u = new CrowdOut();
        u.area(3, 1);
        u.area(0, 100);
        u.area(0, 100);
        u.link(1, 0, 20, 1);
        u.link(2, 0, 20, 1);
        u.link(1, 0, 20, 2);
        u.link(2, 0, 10, 2);
        u.folk(1, 40, 0, 0);
        u.folk(2, 30, 0, 0);
        // without 0: 40 by 20 a tick; without 1: 30 by 10 a tick
        due(u.out(0, 0), 4);
        due(u.out(1, 0), 5);
        due(u.worst(0), 1);
        u.linkSet(3, 4, 15);
        due(u.out(1, 0), 4);
        // both last 4, with a press of 20: the least; then, with link 2 wider, there is less press without link 0
        due(u.out(0, 1), 20);
        due(u.out(1, 1), 20);
        due(u.worst(0), 0);
        u.linkSet(2, 4, 30);
        due(u.out(0, 0), 4);
        due(u.out(0, 1), 10);
        due(u.out(1, 1), 20);
        due(u.worst(0), 1);
        due(u.worst(1), 4);
        due(u.worst(2), 20);
        // all links count, not the first six alone; of the same the least
        CrowdOut y = new CrowdOut();
        y.area(0, 10);
        y.area(3, 10);
        y.area(1, 10);
        for (int i = 0; i < 8; i++) y.link(1, 2, 1, 1);
        y.link(0, 1, 5, 1);
        y.link(0, 1, 5, 2);
        y.folk(0, 5, 1, 0);
        due(y.worst(0), 8);
        due(y.worst(1), 3);
        y.linkSet(9, 0, 0);
        y.linkSet(8, 0, 0);
        due(y.worst(0), 0);
        due(y.worst(1), -9);
        for (int i = 10; i < 29; i++) y.link(1, 2, 1, 1);
        y.link(0, 1, 5, 4);
        y.linkSet(8, 0, 1);
        y.linkSet(29, 0, 0);
        due(y.worst(0), 8);
        y.linkSet(29, 0, 1);
        y.linkSet(8, 0, 0);
        due(y.worst(0), 29);
        due(y.out(29, 0), -9);
        due(y.out(28, 0), 5);
        due(y.out(29, 1), 50);
        due(y.out(29, 2), 0);
    }

    private static void promise24Option() {
        about("promise 24");
        CrowdOut x = line(9, 1, 9, 1);
        due(x.option(2, 9, 9), -1);
        due(x.option(0, 5, -1), -2);
        due(x.option(0, 4, 0), -4);
        due(x.option(0, 1, -1), -4);
        due(x.option(0, 4, 1000), -6);
        due(x.option(0, 3, 21), -6);
        for (int i = 0; i < 4; i++) due(x.option(0, i, 1), i);
        due(x.option(0, 4, 9), -6);
        due(x.option(0, 4, 0), -4);
        due(x.total(16), 3);
        // an option alone changes nothing
        due(x.linkSet(0, 2, 0), 0);
        due(x.linkSet(0, 1, 0), 0);
    }

    private static void promise25Design() {
        about("promise 25");
        CrowdOut x = new CrowdOut();
        due(x.design(0, 0, 4), -2);
        due(x.design(0, 1000, 0), -4);
        due(x.design(301, 0, 0), -4);
        due(x.design(301, 1, 0), -6);
        due(x.design(1, 1000, 0), -6);
        due(x.design(1, 1, -1), -2);
        for (int what = 0; what < 4; what++) due(x.design(1, 1, what), 0);
        x.area(0, 10);
        x.area(3, 10);
        x.link(0, 1, 5, 1);
        x.link(0, 1, 2, 1);
        x.folk(0, 10, 1, 0);
        // as it is: blocked 0 means 2 a tick by link 1, 6 ticks; pressed 80 at most
        due(x.design(6, 80, 0), 0);
        due(x.design(6, 80, 1), 0);
        due(x.design(6, 80, 2), 6);
        due(x.design(6, 80, 3), 80);
        due(x.design(5, 999, 0), -9);
        due(x.design(300, 79, 3), -9);
        x.option(0, 4, 9);
        due(x.design(5, 999, 0), -9);
        x.option(1, 4, 5);
        x.option(1, 4, 4);
        x.option(1, 4, 3);
        // 3 a tick: 5 ticks; 4 a tick: 4; 5 a tick: 3
        due(x.design(5, 999, 0), 2);
        due(x.design(5, 999, 1), 1);
        due(x.design(5, 999, 2), 3);
        due(x.design(5, 999, 3), 50);
        // by numbers: the later of two for the same link stands, and so a greater choice may be worse
        due(x.design(3, 50, 0), 2);
        due(x.design(3, 49, 0), -9);
        due(x.design(2, 999, 0), -9);
        due(x.total(0), 0);
        due(x.linkSet(1, 4, 2), 2);
        // two are needed, of several the least bits
        CrowdOut y = new CrowdOut();
        y.area(0, 10);
        y.area(3, 10);
        y.link(0, 1, 2, 1);
        y.link(0, 1, 2, 1);
        y.folk(0, 10, 1, 0);
        y.option(0, 4, 4);
        y.option(0, 4, 5);
        y.option(1, 4, 5);
        y.option(1, 4, 9);
        due(y.design(3, 999, 0), 6);
        due(y.design(3, 999, 1), 2);
        due(y.design(4, 999, 0), 5);
        due(y.design(4, 999, 2), 4);
        due(y.design(4, 999, 3), 60);
        // every choice: folk in area 1 + i needs link 6 + i, which option i opens; the first six lead nowhere
        for (int bits = 0; bits < 16; bits++) {
            CrowdOut v = new CrowdOut();
            v.area(3, 1);
            for (int i = 0; i < 5; i++) v.area(0, 10);
            for (int i = 0; i < 6; i++) v.link(5, 1, 1, 1);
            for (int i = 0; i < 4; i++) {
                v.link(1 + i, 0, 5, 1);
                v.linkSet(6 + i, 0, 0);
                v.option(6 + i, 0, 1);
                if ((bits >> i & 1) == 1) v.folk(1 + i, 10, 0, 0);
            }
            due(v.design(3, 999, 0), bits);
            due(v.design(3, 999, 1), Integer.bitCount(bits));
            due(v.design(3, 999, 2), bits == 0 ? 0 : 3);
            due(v.design(2, 999, 0), bits == 0 ? 0 : -9);
        }
        // only the first six links are blocked
        CrowdOut z = new CrowdOut();
        z.area(0, 10);
        z.area(3, 10);
        z.area(1, 10);
        for (int i = 0; i < 6; i++) z.link(1, 2, 1, 1);
        z.link(0, 1, 9, 1);
        z.folk(0, 9, 1, 0);
        due(z.design(2, 999, 0), 0);
        due(z.worst(1), -9);
        due(z.design(2, 999, 2), 2);
        due(z.design(2, 999, 3), 0);
        due(z.design(1, 999, 0), -9);
        z.linkSet(6, 0, 0);
        due(z.design(300, 999, 0), -9);
        z.option(6, 0, 1);
        due(z.design(300, 999, 0), 1);
    }

    private static void promise26Kin() {
        about("promise 26");
        CrowdOut x = line(3, 3, 1, 1);
        due(x.kin(0), -1);
        x.folk(0, 9, 2, 0);
        due(x.kin(-1), -1);
        due(x.kin(1), -1);
        due(x.kin(0), 1);
        x.ticks(1);
        due(x.kin(0), 2);
        x.ticks(2);
        due(x.kin(0), 1);
        x.ticks(1);
        due(x.kin(0), 2);
        x.ticks(1);
        due(x.kin(0), 3);
        x.ticks(20);
        due(x.kin(0), 0);
    }

    private static void promise27Total() {
        about("promise 27");
        CrowdOut x = line(9, 1, 9, 1);
        due(x.total(-1), -9);
        due(x.total(18), -9);
        due(x.total(Integer.MAX_VALUE), -9);
        x.folk(0, 20, 2, 0);
        x.train(2, 3, 1, 4);
        order(x, "t=1:o00;o01");
        tape(x, "t");
        due(x.total(0), 0);
        due(x.total(1), 3);
        due(x.total(2), 2);
        due(x.total(3), 1);
        due(x.total(4), 20);
        due(x.total(5), 0);
        due(x.total(7), 1);
        due(x.total(9), 1);
        due(x.total(17), 1);
        x.ticks(3);
        due(x.total(0), 3);
        due(x.total(10), 2);
        due(x.total(4), 20);
        x.ticks(1);
        due(x.total(4), 11);
        due(x.total(5), 9);
        due(x.total(8), 4);
        // refusals by their numbers
        x.areaOf(9, 0);
        x.kin(9);
        x.area(9, 9);
        x.folk(2, 1, 2, 0);
        x.counted(0, 99, 0);
        x.ticks(0);
        x.ticks(999);
        x.feed(9, 0);
        x.given(7, 0);
        x.next(2, 2, false);
        int[] want = {2, 1, 2, 1, 0, 2};
        for (int i = 0; i < 6; i++) due(x.total(11 + i), want[i]);
        due(x.total(0), 4);
        due(x.total(99), -9);
        for (int i = 0; i < 6; i++) due(x.total(11 + i), want[i]);
    }
}
