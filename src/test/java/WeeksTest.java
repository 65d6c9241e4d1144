/** Promises 8 to 12 and 16: weeks, illness, suits, misses, what is sent again, and the runs that come of it. */
public final class WeeksTest {
    public static void main(String[] args) {
        weeks();
        weeksAtTheEnd();
        ill();
        illInPlaceOfWhatWasTold();
        stop();
        stopAndIll();
        panelsOfLateFeature();
        missTold();
        missIsForOneWeek();
        missWithoutPanel();
        catchUp();
        catchUpWithoutNewPanel();
        holesBarTheRun();
        firstPanelMissed();
        sendBehindTheEnd();
        runsOfOnePaper();
        Checks.end();
    }

    private static PanelHouse house() {
        PanelHouse house = new PanelHouse();
        house.feature(0, 0, 1, 1, 1);
        house.paper(0, 0, 1000);
        house.sign(0, 0);
        return house;
    }

    private static void run(PanelHouse house, String when, int printed, int next, int gap, int missing) {
        Checks.due(when + ": printed", house.look(0, 5), printed);
        Checks.due(when + ": next", house.look(0, 6), next);
        Checks.due(when + ": gap", house.look(0, 7), gap);
        Checks.due(when + ": missing", house.look(0, 8), missing);
    }

    private static void weeks() {
        PanelHouse house = house();
        Checks.due("-1", house.weeks(-1), PanelHouse.NONE);
        Checks.due("31", house.weeks(31), PanelHouse.NONE);
        Checks.due("most", house.weeks(Integer.MAX_VALUE), PanelHouse.NONE);
        Checks.due("least", house.weeks(Integer.MIN_VALUE), PanelHouse.NONE);
        Checks.due("0", house.weeks(0), 0);
        Checks.due("1", house.weeks(1), 1);
        Checks.due("30", house.weeks(30), 31);
        Checks.due("0 again", house.weeks(0), 31);
        Checks.due("now", house.count(3), 31);
        Checks.due("panels", house.panel(0), 31);
        run(house, "31 weeks", 31, 32, 0, 0);
    }

    private static void weeksAtTheEnd() {
        PanelHouse house = house();
        for (int i = 0; i < 6; i++) {
            house.weeks(30);
        }
        Checks.due("beyond 200", house.weeks(21), PanelHouse.NONE);
        Checks.due("still 180", house.count(3), 180);
        Checks.due("up to 200", house.weeks(20), 200);
        Checks.due("a week more", house.weeks(1), PanelHouse.NONE);
        Checks.due("no week more", house.weeks(0), 200);
        Checks.due("200 panels", house.panel(0), 200);
        run(house, "the end", 200, 201, 0, 0);
        Checks.due("a miss behind the end", house.miss(0), true);
        Checks.due("told twice", house.miss(0), false);
        Checks.due("nothing to send", house.send(0), PanelHouse.NONE);
    }

    private static void ill() {
        PanelHouse house = house();
        Checks.due("n 0", house.ill(0, 0), false);
        Checks.due("n 51", house.ill(0, 51), false);
        Checks.due("n -1", house.ill(0, -1), false);
        Checks.due("feature 1", house.ill(1, 5), false);
        Checks.due("feature -1", house.ill(-1, 5), false);
        house.weeks(2);
        Checks.due("n 3", house.ill(0, 3), true);
        house.weeks(3);
        Checks.due("ill for three weeks", house.panel(0), 2);
        house.weeks(1);
        Checks.due("well again", house.panel(0), 3);
        Checks.due("n 50", house.ill(0, 50), true);
        house.weeks(30);
        house.weeks(20);
        Checks.due("ill for fifty weeks", house.panel(0), 3);
        house.weeks(1);
        Checks.due("well behind fifty", house.panel(0), 4);
        run(house, "behind illness", 4, 5, 0, 0);
    }

    private static void illInPlaceOfWhatWasTold() {
        PanelHouse house = house();
        house.ill(0, 10);
        house.weeks(2);
        Checks.due("shorter", house.ill(0, 1), true);
        house.weeks(1);
        Checks.due("the third week", house.panel(0), 0);
        house.weeks(1);
        Checks.due("the fourth week", house.panel(0), 1);
        house.ill(0, 1);
        Checks.due("longer", house.ill(0, 2), true);
        house.weeks(2);
        Checks.due("two weeks, not three", house.panel(0), 1);
        house.weeks(1);
        Checks.due("the seventh week", house.panel(0), 2);
    }

    private static void stop() {
        PanelHouse house = house();
        Checks.due("it goes on", house.stop(0, false), false);
        Checks.due("feature 1", house.stop(1, true), false);
        Checks.due("feature -1", house.stop(-1, true), false);
        house.weeks(1);
        Checks.due("a suit", house.stop(0, true), true);
        Checks.due("a second suit", house.stop(0, true), false);
        Checks.due("this week's panel", house.panel(0), 1);
        house.weeks(5);
        Checks.due("stopped", house.panel(0), 1);
        Checks.due("on", house.stop(0, false), true);
        Checks.due("on twice", house.stop(0, false), false);
        house.weeks(1);
        Checks.due("a panel more", house.panel(0), 2);
        house.stop(0, true);
        house.stop(0, false);
        house.weeks(1);
        Checks.due("a suit within no week", house.panel(0), 3);
    }

    private static void stopAndIll() {
        PanelHouse house = house();
        house.stop(0, true);
        house.ill(0, 2);
        house.weeks(1);
        house.stop(0, false);
        house.weeks(1);
        Checks.due("ill under a suit", house.panel(0), 0);
        house.weeks(1);
        Checks.due("well", house.panel(0), 1);
    }

    private static void panelsOfLateFeature() {
        PanelHouse house = house();
        house.weeks(5);
        house.feature(1, 0, 1, 1, 1);
        Checks.due("without", house.panel(1), 0);
        Checks.due("-1", house.panel(-1), PanelHouse.NONE);
        Checks.due("2", house.panel(2), PanelHouse.NONE);
        house.weeks(2);
        Checks.due("from 1", house.panel(1), 2);
        Checks.due("the older one", house.panel(0), 7);
    }

    private static void missTold() {
        PanelHouse house = house();
        Checks.due("-1", house.miss(-1), false);
        Checks.due("1", house.miss(1), false);
        Checks.due("0", house.miss(0), true);
        Checks.due("0 again", house.miss(0), false);
        house.weeks(1);
        run(house, "missed", 0, 1, 1, 1);
        Checks.due("the next week's", house.miss(0), true);
        house.weeks(1);
        run(house, "missed twice", 0, 1, 2, 2);
        Checks.due("send -1", house.send(-1), PanelHouse.NONE);
        Checks.due("send 1", house.send(1), PanelHouse.NONE);
        Checks.due("the least first", house.send(0), 1);
        run(house, "one sent", 0, 1, 2, 1);
        Checks.due("then the next", house.send(0), 2);
        run(house, "both sent", 0, 1, 2, 0);
        Checks.due("none left", house.send(0), PanelHouse.NONE);
        house.weeks(1);
        run(house, "both printed", 2, 3, 1, 0);
        house.cancel(0);
        house.weeks(5);
        Checks.due("told behind its end", house.miss(0), true);
        Checks.due("twice behind its end", house.miss(0), false);
    }

    private static void missIsForOneWeek() {
        PanelHouse house = house();
        house.paper(0, 0, 1);
        house.sign(1, 0);
        house.miss(0);
        house.weeks(3);
        Checks.due("one panel is missing", house.look(0, 8), 1);
        Checks.due("the other contract", house.look(1, 5), 3);
    }

    private static void missWithoutPanel() {
        PanelHouse house = house();
        house.ill(0, 1);
        house.miss(0);
        house.weeks(1);
        run(house, "nothing to miss", 0, PanelHouse.NONE, 0, 0);
        house.weeks(1);
        run(house, "the miss is over", 1, 2, 0, 0);
    }

    private static void catchUp() {
        PanelHouse house = house();
        house.weeks(1);
        house.miss(0);
        house.weeks(4);
        run(house, "behind", 1, 2, 4, 1);
        Checks.due("sent", house.send(0), 2);
        run(house, "sent, not printed", 1, 2, 4, 0);
        house.weeks(1);
        run(house, "two a week", 3, 4, 3, 0);
        house.weeks(1);
        run(house, "two a week again", 5, 6, 2, 0);
        house.weeks(1);
        run(house, "6 and 7", 7, 8, 1, 0);
        house.weeks(1);
        run(house, "8, but 9 is of this week", 8, 9, 1, 0);
        house.weeks(5);
        run(house, "a week behind for good", 13, 14, 1, 0);
        house.stop(0, true);
        house.weeks(1);
        run(house, "a suit lets it catch up", 14, 15, 0, 0);
    }

    private static void catchUpWithoutNewPanel() {
        PanelHouse house = house();
        house.miss(0);
        house.weeks(3);
        house.send(0);
        house.ill(0, 2);
        house.weeks(1);
        run(house, "two old ones", 2, 3, 1, 0);
        house.weeks(1);
        run(house, "the last old one", 3, 4, 0, 0);
    }

    private static void holesBarTheRun() {
        PanelHouse house = house();
        house.weeks(1);
        house.miss(0);
        house.weeks(2);
        house.miss(0);
        house.weeks(1);
        run(house, "2 and 4 missed", 1, 2, 3, 2);
        house.send(0);
        house.weeks(1);
        run(house, "2 and 3", 3, 4, 2, 1);
        house.weeks(1);
        run(house, "4 is a hole", 3, 4, 3, 1);
        Checks.due("sent", house.send(0), 4);
        house.weeks(1);
        run(house, "4 and 5", 5, 6, 2, 0);
    }

    private static void firstPanelMissed() {
        PanelHouse house = new PanelHouse();
        house.feature(0, 0, 1, 1, 1);
        house.paper(0, 0, 1000);
        house.weeks(5);
        house.sign(0, 0);
        house.miss(0);
        house.weeks(1);
        run(house, "the run begins all the same", 0, 6, 1, 1);
        house.weeks(1);
        run(house, "7 waits", 0, 6, 2, 1);
        Checks.due("sent", house.send(0), 6);
        house.weeks(1);
        run(house, "6 and 7", 2, 8, 1, 0);
    }

    private static void sendBehindTheEnd() {
        PanelHouse house = house();
        house.cancel(0);
        house.weeks(2);
        house.miss(0);
        house.weeks(2);
        run(house, "ended with a hole", 2, 3, 2, 1);
        house.weeks(3);
        run(house, "panels behind its weeks are none of it", 2, 3, 2, 1);
        Checks.due("sent", house.send(0), 3);
        house.weeks(2);
        run(house, "it prints no more", 2, 3, 2, 0);
        Checks.due("nothing more", house.send(0), PanelHouse.NONE);
    }

    private static void runsOfOnePaper() {
        PanelHouse house = house();
        house.cancel(0);
        house.weeks(3);
        house.miss(0);
        house.weeks(1);
        house.sign(0, 0);
        house.weeks(2);
        run(house, "the first", 3, 4, 1, 1);
        Checks.due("the second prints", house.look(1, 5), 2);
        Checks.due("the second has its own run", house.look(1, 6), 7);
        Checks.due("the second misses nothing", house.look(1, 8), 0);
        Checks.due("nothing to send to the second", house.send(1), PanelHouse.NONE);
    }
}
