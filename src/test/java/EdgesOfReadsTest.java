/** Promises 1, 15, 16, 19 and 20: what is read of an empty house, of the first and the last there is, of the running month. */
public final class EdgesOfReadsTest {
    private static final int NONE = PanelHouse.NONE;

    public static void main(String[] args) {
        newObject();
        objectsApart();
        looksAtTheLastContract();
        lookAtItsFirstAndLastWeek();
        lookAtRunning();
        panels();
        sellsUpToTheRunningMonth();
        sellsAsItIsNow();
        sellsOfTheLastMonth();
        counts();
        countOfRunning();
        readsChangeNothing();
        fiveHundredAndTwelveCalls();
        Checks.end();
    }

    /** Promise 1: "No FEATURE, no PAPER; NOW is 0."; so nothing is such, and all else is empty. */
    private static void newObject() {
        PanelHouse house = new PanelHouse();
        for (int what = 0; what <= 7; what++) {
            Checks.due("count " + what, house.count(what), 0);
        }
        Checks.due("circulation", house.circulation(0, 1), false);
        Checks.dueThrown("right", () -> house.right(0, 0, 1));
        Checks.due("sign", house.sign(0, 0), 1);
        Checks.due("cancel", house.cancel(0), NONE);
        Checks.due("ill", house.ill(0, 1), false);
        Checks.due("stop", house.stop(0, true), false);
        Checks.due("going on", house.stop(0, false), false);
        Checks.due("miss", house.miss(0), false);
        Checks.due("send", house.send(0), NONE);
        Checks.dueThrown("look", () -> house.look(0, 0));
        Checks.due("panel", house.panel(0), NONE);
        Checks.dueThrown("income", () -> house.income(0));
        Checks.due("share", house.share(0, 0), NONE);
        Checks.due("sells", house.sells(0, 0), NONE);
        Checks.due("text", house.text(), 0);
        Checks.due("weeks", house.weeks(30), 30);
        Checks.due("the first feature", house.feature(0, 0, 1, 0, 0), 0);
        Checks.due("the first paper", house.paper(0, 0, 1), 0);
        Checks.due("the first contract", house.sign(0, 0), 100);
    }

    /** Promise 1: "No FEATURE, no PAPER", whatever another object was told. */
    private static void objectsApart() {
        PanelHouse busy = Seen.busy();
        String seen = Seen.of(busy);
        PanelHouse fresh = new PanelHouse();
        Checks.due("features of a fresh one", fresh.count(0), 0);
        Checks.due("lines of a fresh one", fresh.count(5), 0);
        Checks.read(fresh, "rate 999 when 1;");
        fresh.weeks(30);
        Checks.tell("the busy one", Seen.of(busy), seen);
    }

    /** Promise 15: each what of the last contract there is, and none of the one behind it. */
    private static void looksAtTheLastContract() {
        PanelHouse house = Seen.busy();
        int[] want = {0, 1, 1, 8, 1, 6, 7, 0, 0, 4 * 7900 * 7 / 1000};
        for (int what = 0; what <= 9; what++) {
            int asked = what;
            Checks.due("look " + what, house.look(2, what), want[what]);
            Checks.dueThrown("look " + what + " at the next", () -> house.look(3, asked));
            Checks.dueThrown("look " + what + " at -1", () -> house.look(-1, asked));
        }
        Checks.dueThrown("look -1", () -> house.look(2, -1));
        Checks.dueThrown("look 10", () -> house.look(2, 10));
    }

    /** Promise 15: "2: first WEEK, 3: last WEEK (NONE)". */
    private static void lookAtItsFirstAndLastWeek() {
        PanelHouse house = new PanelHouse();
        house.feature(0, 0, 1, 1, 1);
        house.paper(0, 0, 1);
        house.paper(0, 0, 1);
        house.sign(0, 0);
        Checks.due("first", house.look(0, 2), 1);
        Checks.due("last, not cancelled", house.look(0, 3), NONE);
        house.weeks(5);
        house.cancel(0);
        Checks.due("last, cancelled", house.look(0, 3), 9);
        house.weeks(30);
        Checks.due("last, ended", house.look(0, 3), 9);
        Checks.due("first, ended", house.look(0, 2), 1);
        house.sign(1, 0);
        Checks.due("first of a late one", house.look(1, 2), 36);
    }

    /** Promise 15: "4: 1 if it runs in the next WEEK, else 0". */
    private static void lookAtRunning() {
        PanelHouse house = new PanelHouse();
        house.feature(0, 0, 1, 1, 1);
        house.paper(0, 0, 1);
        house.sign(0, 0);
        Checks.due("at once", house.look(0, 4), 1);
        house.stop(0, true);
        Checks.due("stopped, but it runs", house.look(0, 4), 1);
        house.cancel(0);
        house.weeks(3);
        Checks.due("ahead of its last week", house.look(0, 4), 1);
        house.weeks(1);
        Checks.due("behind its last week", house.look(0, 4), 0);
    }

    /** Promise 16: "(0 without); NONE: none such". */
    private static void panels() {
        PanelHouse house = new PanelHouse();
        for (int i = 0; i < 10; i++) {
            Checks.due("none such yet", house.panel(i), NONE);
            house.feature(0, 0, 1, 1, 1);
            Checks.due("without", house.panel(i), 0);
        }
        Checks.due("an 11th", house.panel(10), NONE);
        Checks.due("-1", house.panel(-1), NONE);
        house.stop(9, true);
        house.weeks(1);
        Checks.due("the first", house.panel(0), 1);
        Checks.due("still without", house.panel(9), 0);
    }

    /** Promise 19: "NONE: none such, a MONTH behind it". */
    private static void sellsUpToTheRunningMonth() {
        PanelHouse house = new PanelHouse();
        house.paper(0, 0, 5);
        for (int now = 0; now <= 20; now++) {
            Checks.due("-1 at " + now, house.sells(0, -1), NONE);
            Checks.due("0 at " + now, house.sells(0, 0), 5);
            Checks.due("the running one at " + now, house.sells(0, now / 4), 5);
            Checks.due("the next one at " + now, house.sells(0, now / 4 + 1), NONE);
            house.weeks(1);
        }
        Checks.due("no such paper", house.sells(1, 0), NONE);
        Checks.due("paper -1", house.sells(-1, 0), NONE);
        Checks.due("a month that wraps round", house.sells(0, 1 << 30), NONE);
    }

    /** Promise 19: "(of the running one: as it is now)"; promise 4: "from the running MONTH on". */
    private static void sellsAsItIsNow() {
        PanelHouse house = new PanelHouse();
        house.paper(0, 0, 5);
        house.weeks(4);
        for (int n = 6; n <= 9; n++) {
            house.circulation(0, n);
            Checks.due("told " + n, house.sells(0, 1), n);
            Checks.due("month 0 behind " + n, house.sells(0, 0), 5);
            house.weeks(n < 9 ? 1 : 0);
        }
        house.weeks(1);
        Checks.due("month 1 over", house.sells(0, 1), 9);
        Checks.due("month 2", house.sells(0, 2), 9);
    }

    /** Promise 19 where "WEEKS are ... 200 at most": month 49 is the last one. */
    private static void sellsOfTheLastMonth() {
        PanelHouse house = new PanelHouse();
        house.paper(0, 0, 5);
        for (int i = 0; i < 6; i++) {
            house.weeks(30);
        }
        house.weeks(19);
        house.circulation(0, 6);
        Checks.due("month 49 in week 200", house.sells(0, 49), 6);
        Checks.due("month 50 to come", house.sells(0, 50), NONE);
        Checks.due("month 48", house.sells(0, 48), 5);
        house.weeks(1);
        house.circulation(0, 7);
        Checks.due("month 49 is over", house.sells(0, 49), 6);
        Checks.due("month 51 will never be", house.sells(0, 51), NONE);
    }

    private static void countAll(PanelHouse house, String when, int... want) {
        for (int what = 0; what < want.length; what++) {
            Checks.due(when + ": count " + what, house.count(what), want[what]);
        }
        Checks.due(when + ": count -1", house.count(-1), NONE);
        Checks.due(when + ": count 8", house.count(8), NONE);
    }

    /** Promise 20, each what when it is 0 and when it is at its most; "NONE for another what". */
    private static void counts() {
        PanelHouse house = new PanelHouse();
        countAll(house, "empty", 0, 0, 0, 0, 0, 0, 0, 0);
        for (int i = 0; i < 10; i++) {
            house.feature(0, 0, 1, 1, 1);
        }
        for (int i = 0; i < 20; i++) {
            house.paper(0, 0, 1);
        }
        for (int i = 0; i < 60; i++) {
            house.sign(i % 20, i / 20);
        }
        for (int i = 1; i < 20; i++) {
            house.text();
        }
        Checks.read(house, Checks.times("rate 1 when 1;", 16));
        Checks.feed(house, Checks.times("*", 601));
        for (int i = 0; i < 20; i++) {
            house.weeks(10);
        }
        countAll(house, "full", 10, 20, 60, 200, 60, 16, 600, 20);
    }

    /** Promise 20: "4: those that run in the next WEEK". */
    private static void countOfRunning() {
        PanelHouse house = new PanelHouse();
        house.feature(0, 0, 1, 1, 1);
        for (int i = 0; i < 3; i++) {
            house.paper(0, 0, 1);
            house.sign(i, 0);
            Checks.due("signed", house.count(4), i + 1);
        }
        house.cancel(0);
        house.weeks(1);
        house.cancel(1);
        house.weeks(2);
        Checks.due("week 4 is the last of one", house.count(4), 3);
        house.weeks(1);
        Checks.due("week 5 is the last of another", house.count(4), 2);
        house.weeks(1);
        Checks.due("one is left", house.count(4), 1);
        Checks.due("of three", house.count(2), 3);
    }

    /** Promises 15 to 20 tell what is there: "Nothing is promised beyond the answers and state changes described". */
    private static void readsChangeNothing() {
        PanelHouse house = Seen.busy();
        PanelHouse twin = Seen.busy();
        Checks.tell("seen twice", Seen.of(house), Seen.of(house));
        house.weeks(6);
        twin.weeks(6);
        Checks.tell("seen later", Seen.of(house), Seen.of(twin));
    }

    /** "An object is used for at most 512 calls": the 512th answers as the first. */
    private static void fiveHundredAndTwelveCalls() {
        PanelHouse house = new PanelHouse();
        house.feature(0, 0, 1, 1, 1);
        house.paper(0, 0, 1000);
        house.sign(0, 0);
        for (int call = 4; call < 504; call += 5) {
            house.miss(0);
            house.weeks(1);
            house.send(0);
            house.circulation(0, call);
            house.feed(-1L, 0, 0);
        }
        Checks.read(house, "rate 1 when 1;");
        Checks.due("missing", house.look(0, 8), 0);
        Checks.due("gap", house.look(0, 7), 1);
        Checks.due("printed", house.look(0, 5), 99);
        Checks.due("a week", house.weeks(1), 101);
        Checks.due("the 511th", house.panel(0), 101);
        Checks.due("the 512th", house.look(0, 5), 100);
    }
}
