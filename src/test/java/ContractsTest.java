/** Promises 6, 7 and 15: contracts signed, refused, cancelled and looked at. */
public final class ContractsTest {
    public static void main(String[] args) {
        signed();
        noSuch();
        sixty();
        hasOne();
        barred();
        barredByTheMilesOfTheFeature();
        stopped();
        orderOfRefusals();
        cancelled();
        cancelledAtTheEnd();
        looks();
        Checks.end();
    }

    private static PanelHouse house(int miles) {
        PanelHouse house = new PanelHouse();
        house.feature(0, miles, 1, 1, 1);
        house.paper(100, 100, 1000);
        house.paper(103, 104, 1000);
        return house;
    }

    private static void signed() {
        PanelHouse house = house(0);
        house.feature(1, 0, 1, 1, 1);
        Checks.due("the first", house.sign(1, 0), 100);
        Checks.due("another feature", house.sign(1, 1), 101);
        Checks.due("another paper", house.sign(0, 1), 102);
        Checks.due("contracts", house.count(2), 3);
        Checks.due("running", house.count(4), 3);
    }

    private static void noSuch() {
        PanelHouse house = house(0);
        Checks.due("paper -1", house.sign(-1, 0), 1);
        Checks.due("paper 2", house.sign(2, 0), 1);
        Checks.due("feature -1", house.sign(0, -1), 1);
        Checks.due("feature 1", house.sign(0, 1), 1);
        Checks.due("far off", house.sign(Integer.MAX_VALUE, Integer.MIN_VALUE), 1);
        Checks.due("no contract", house.count(2), 0);
    }

    private static void sixty() {
        PanelHouse house = new PanelHouse();
        for (int i = 0; i < 4; i++) {
            house.feature(0, 0, 1, 1, 1);
        }
        for (int i = 0; i < 20; i++) {
            house.paper(i, 0, 1);
        }
        for (int i = 0; i < 60; i++) {
            Checks.due("contract " + i, house.sign(i % 20, i / 20), 100 + i);
        }
        Checks.due("a 61st", house.sign(0, 3), 1);
        Checks.due("60 ahead of one that it has", house.sign(0, 0), 1);
        Checks.due("sixty", house.count(2), 60);
        Checks.due("the sixtieth", house.look(59, 0), 19);
        house.cancel(0);
        house.weeks(4);
        Checks.due("an ended one is there, too", house.sign(0, 3), 1);
        Checks.due("59 run", house.count(4), 59);
    }

    private static void hasOne() {
        PanelHouse house = house(0);
        house.sign(0, 0);
        Checks.due("at once", house.sign(0, 0), 2);
        house.weeks(3);
        Checks.due("later", house.sign(0, 0), 2);
        house.cancel(0);
        Checks.due("cancelled, but it runs", house.sign(0, 0), 2);
        house.weeks(3);
        Checks.due("its last week is the next", house.sign(0, 0), 2);
        house.weeks(1);
        Checks.due("it ran out", house.sign(0, 0), 101);
        Checks.due("first week of the second", house.look(1, 2), 8);
        Checks.due("it has the second", house.sign(0, 0), 2);
    }

    private static void barred() {
        PanelHouse near = house(6);
        near.sign(0, 0);
        Checks.due("5 miles of 6", near.sign(1, 0), 3);
        PanelHouse edge = house(5);
        edge.sign(0, 0);
        Checks.due("5 miles of 5", edge.sign(1, 0), 101);
        PanelHouse ended = house(6);
        ended.sign(0, 0);
        ended.cancel(0);
        ended.weeks(3);
        Checks.due("the neighbour runs a week more", ended.sign(1, 0), 3);
        ended.weeks(1);
        Checks.due("the neighbour has ended", ended.sign(1, 0), 101);
        Checks.due("and is barred now itself", ended.sign(0, 0), 3);
        PanelHouse same = new PanelHouse();
        same.feature(0, 0, 1, 1, 1);
        same.feature(0, 1, 1, 1, 1);
        same.paper(7, 7, 1);
        same.paper(7, 7, 1);
        same.sign(0, 0);
        same.sign(0, 1);
        Checks.due("one place, no miles", same.sign(1, 0), 102);
        Checks.due("one place, a mile", same.sign(1, 1), 3);
    }

    private static void barredByTheMilesOfTheFeature() {
        PanelHouse house = house(6);
        house.feature(0, 5, 1, 1, 1);
        house.sign(0, 0);
        Checks.due("another feature bars nothing", house.sign(1, 1), 101);
        house.paper(999, 999, 1);
        house.feature(0, 500, 1, 1, 1);
        house.paper(0, 0, 1);
        house.paper(300, 400, 1);
        house.paper(300, 399, 1);
        house.sign(3, 2);
        Checks.due("500 of 500", house.sign(4, 2), 103);
        Checks.due("nearer than 500", house.sign(5, 2), 3);
        Checks.due("the other corner", house.sign(2, 2), 104);
    }

    private static void stopped() {
        PanelHouse house = house(0);
        house.stop(0, true);
        Checks.due("stopped at once", house.sign(0, 0), 4);
        house.weeks(2);
        Checks.due("stopped", house.sign(0, 0), 4);
        house.stop(0, false);
        Checks.due("it goes on", house.sign(0, 0), 100);
        house.ill(0, 5);
        Checks.due("ill is not stopped", house.sign(1, 0), 101);
    }

    private static void orderOfRefusals() {
        PanelHouse house = house(6);
        house.sign(0, 0);
        house.stop(0, true);
        Checks.due("2 ahead of 4", house.sign(0, 0), 2);
        Checks.due("3 ahead of 4", house.sign(1, 0), 3);
        PanelHouse both = new PanelHouse();
        both.feature(0, 10, 1, 1, 1);
        both.paper(0, 0, 1);
        both.paper(20, 0, 1);
        both.sign(0, 0);
        both.sign(1, 0);
        both.paper(15, 0, 1);
        Checks.due("by the second neighbour", both.sign(2, 0), 3);
    }

    private static void cancelled() {
        PanelHouse house = house(0);
        Checks.due("none there", house.cancel(0), PanelHouse.NONE);
        house.sign(0, 0);
        house.sign(1, 0);
        Checks.due("-1", house.cancel(-1), PanelHouse.NONE);
        Checks.due("2", house.cancel(2), PanelHouse.NONE);
        Checks.due("ahead of its first week", house.cancel(0), 4);
        Checks.due("again", house.cancel(0), PanelHouse.NONE);
        house.weeks(6);
        Checks.due("later", house.cancel(1), 10);
        house.weeks(6);
        Checks.due("behind its end", house.cancel(1), PanelHouse.NONE);
        Checks.due("last week", house.look(0, 3), 4);
        Checks.due("last week of the other", house.look(1, 3), 10);
        Checks.due("printed in four weeks", house.look(0, 5), 4);
        Checks.due("printed in ten weeks", house.look(1, 5), 10);
        Checks.due("the feature goes on", house.panel(0), 12);
    }

    private static void cancelledAtTheEnd() {
        PanelHouse house = house(0);
        house.sign(0, 0);
        for (int i = 0; i < 20; i++) {
            house.weeks(10);
        }
        Checks.due("signed behind week 200", house.sign(1, 0), 101);
        Checks.due("its first week", house.look(1, 2), 201);
        Checks.due("its next panel", house.look(1, 6), PanelHouse.NONE);
        Checks.due("cancelled behind week 200", house.cancel(0), 204);
        Checks.due("it printed all", house.look(0, 5), 200);
        Checks.due("nothing is open", house.look(0, 7), 0);
    }

    private static void looks() {
        PanelHouse house = house(0);
        house.feature(3, 0, 1, 1, 1);
        house.weeks(2);
        house.sign(1, 1);
        Checks.due("paper", house.look(0, 0), 1);
        Checks.due("feature", house.look(0, 1), 1);
        Checks.due("first week", house.look(0, 2), 3);
        Checks.due("last week", house.look(0, 3), PanelHouse.NONE);
        Checks.due("runs", house.look(0, 4), 1);
        Checks.due("printed", house.look(0, 5), 0);
        Checks.due("next, ahead of any", house.look(0, 6), PanelHouse.NONE);
        Checks.due("gap", house.look(0, 7), 0);
        Checks.due("missing", house.look(0, 8), 0);
        Checks.due("billed", house.look(0, 9), 0);
        Checks.dueThrown("what -1", () -> house.look(0, -1));
        Checks.dueThrown("what 10", () -> house.look(0, 10));
        Checks.dueThrown("contract -1", () -> house.look(-1, 0));
        Checks.dueThrown("contract 1", () -> house.look(1, 0));
        Checks.dueThrown("contract far off", () -> house.look(Integer.MAX_VALUE, 3));
        house.cancel(0);
        house.weeks(3);
        Checks.due("runs in its last week", house.look(0, 4), 1);
        house.weeks(1);
        Checks.due("runs no more", house.look(0, 4), 0);
        Checks.due("the run began with panel 3", house.look(0, 6), 7);
        Checks.due("count of running ones", house.count(4), 0);
        Checks.due("count of all", house.count(2), 1);
    }
}
