/** The limits that the document's first part names, each at its last allowed number and at the first that is not. */
public final class EdgesOfTermsTest {
    private static final int NONE = PanelHouse.NONE;

    public static void main(String[] args) {
        nowIsNothingAtFirst();
        weeksFromOneToTwoHundred();
        fourWeeksAreAMonth();
        kinds();
        miles();
        shares();
        tenFeatures();
        places();
        circulations();
        twentyPapers();
        lastOneToldByTheEndOfTheMonth();
        unlessItWasPutRight();
        aheadOfItsComingAsAtFirst();
        contractsFromTheNextWeek();
        sixtyContracts();
        firstReasonOfSeveral();
        oneThatRunsInTheNextWeek();
        nearerThanItsMiles();
        neighbourThatRunsInTheNextWeek();
        stoppedOne();
        cancelledFourWeeksMore();
        Checks.end();
    }

    private static PanelHouse house(int miles) {
        PanelHouse house = new PanelHouse();
        house.feature(0, miles, 1, 1, 1);
        house.paper(0, 0, 1000);
        house.paper(30, 40, 1000);
        return house;
    }

    private static void pass(PanelHouse house, int weeks) {
        for (int left = weeks; left > 0; left -= 30) {
            house.weeks(Math.min(left, 30));
        }
    }

    /** "NOW is the last WEEK that went by, 0 at first." */
    private static void nowIsNothingAtFirst() {
        PanelHouse house = new PanelHouse();
        Checks.due("NOW at first", house.count(3), 0);
        Checks.due("a week", house.weeks(1), 1);
        Checks.due("NOW behind it", house.count(3), 1);
    }

    /** "WEEKS are numbered from 1, 200 at most". */
    private static void weeksFromOneToTwoHundred() {
        PanelHouse house = house(0);
        house.sign(0, 0);
        Checks.due("the first week", house.look(0, 2), 1);
        pass(house, 199);
        Checks.due("the 200th", house.weeks(1), 200);
        Checks.due("a 201st", house.weeks(1), NONE);
        Checks.due("printed in all", house.look(0, 5), 200);
    }

    /** "four are a MONTH (WEEKS 1 to 4 MONTH 0)": told by the circulation of the running one. */
    private static void fourWeeksAreAMonth() {
        for (int now = 0; now <= 12; now++) {
            PanelHouse house = house(0);
            pass(house, now);
            Checks.due("the running month at " + now, house.sells(0, now / 4), 1000);
            Checks.due("the one behind it at " + now, house.sells(0, now / 4 + 1), NONE);
        }
        PanelHouse last = house(0);
        pass(last, 199);
        Checks.due("month 49 runs in week 200", last.sells(0, 49), 1000);
        Checks.due("month 50 does not yet", last.sells(0, 50), NONE);
        Checks.dueThrown("month 49 is not over", () -> last.right(0, 49, 1));
        last.weeks(1);
        Checks.due("month 49 is over", last.right(0, 49, 1), 0);
    }

    /** "a kind (0 to 3)". */
    private static void kinds() {
        PanelHouse house = new PanelHouse();
        Checks.due("kind -1", house.feature(-1, 0, 1, 1, 1), NONE);
        for (int kind = 0; kind <= 3; kind++) {
            Checks.due("kind " + kind, house.feature(kind, 0, 1, 1, 1), kind);
        }
        Checks.due("kind 4", house.feature(4, 0, 1, 1, 1), NONE);
    }

    /** "miles (0 to 500)". */
    private static void miles() {
        PanelHouse house = new PanelHouse();
        Checks.due("miles -1", house.feature(0, -1, 1, 1, 1), NONE);
        Checks.due("miles 0", house.feature(0, 0, 1, 1, 1), 0);
        Checks.due("miles 500", house.feature(0, 500, 1, 1, 1), 1);
        Checks.due("miles 501", house.feature(0, 501, 1, 1, 1), NONE);
    }

    /** "shares of three AUTHORS (0 to 100 each, one above 0 at least)". */
    private static void shares() {
        PanelHouse house = new PanelHouse();
        Checks.due("no share", house.feature(0, 0, 0, 0, 0), NONE);
        Checks.due("a alone, 1", house.feature(0, 0, 1, 0, 0), 0);
        Checks.due("b alone, 1", house.feature(0, 0, 0, 1, 0), 1);
        Checks.due("c alone, 1", house.feature(0, 0, 0, 0, 1), 2);
        Checks.due("a alone, 100", house.feature(0, 0, 100, 0, 0), 3);
        Checks.due("b alone, 100", house.feature(0, 0, 0, 100, 0), 4);
        Checks.due("c alone, 100", house.feature(0, 0, 0, 0, 100), 5);
        Checks.due("all 100", house.feature(0, 0, 100, 100, 100), 6);
        Checks.due("a 101", house.feature(0, 0, 101, 0, 0), NONE);
        Checks.due("b 101", house.feature(0, 0, 0, 101, 0), NONE);
        Checks.due("c 101", house.feature(0, 0, 0, 0, 101), NONE);
        Checks.due("a -1", house.feature(0, 0, -1, 100, 100), NONE);
        Checks.due("b -1", house.feature(0, 0, 100, -1, 100), NONE);
        Checks.due("c -1", house.feature(0, 0, 100, 100, -1), NONE);
    }

    /** "FEATURES, 10 at most"; refused ones take no number. */
    private static void tenFeatures() {
        PanelHouse house = new PanelHouse();
        for (int i = 0; i < 10; i++) {
            Checks.due("refused between", house.feature(4, 0, 1, 1, 1), NONE);
            Checks.due("feature " + i, house.feature(0, 0, 1, 1, 1), i);
        }
        Checks.due("an 11th", house.feature(0, 0, 1, 1, 1), NONE);
        Checks.due("a 12th, of other numbers", house.feature(4, 0, 1, 1, 1), NONE);
        Checks.due("ten", house.count(0), 10);
        Checks.due("the tenth", house.panel(9), 0);
        Checks.due("no eleventh", house.panel(10), NONE);
    }

    /** "a place x, y (0 to 999 each)". */
    private static void places() {
        PanelHouse house = new PanelHouse();
        Checks.due("0, 0", house.paper(0, 0, 1), 0);
        Checks.due("999, 0", house.paper(999, 0, 1), 1);
        Checks.due("0, 999", house.paper(0, 999, 1), 2);
        Checks.due("999, 999", house.paper(999, 999, 1), 3);
        Checks.due("1000, 0", house.paper(1000, 0, 1), NONE);
        Checks.due("0, 1000", house.paper(0, 1000, 1), NONE);
        Checks.due("-1, 0", house.paper(-1, 0, 1), NONE);
        Checks.due("0, -1", house.paper(0, -1, 1), NONE);
    }

    /** "a circulation (1 to 100000)", as told at first, later, and put right. */
    private static void circulations() {
        PanelHouse house = new PanelHouse();
        Checks.due("at first 0", house.paper(0, 0, 0), NONE);
        Checks.due("at first 1", house.paper(0, 0, 1), 0);
        Checks.due("at first 100000", house.paper(0, 0, 100000), 1);
        Checks.due("at first 100001", house.paper(0, 0, 100001), NONE);
        Checks.due("told 0", house.circulation(0, 0), false);
        Checks.due("still 1", house.sells(0, 0), 1);
        Checks.due("told 100000", house.circulation(0, 100000), true);
        Checks.due("it is 100000", house.sells(0, 0), 100000);
        Checks.due("told 100001", house.circulation(0, 100001), false);
        Checks.due("still 100000", house.sells(0, 0), 100000);
        Checks.due("told 1", house.circulation(0, 1), true);
        Checks.due("it is 1", house.sells(0, 0), 1);
        house.weeks(4);
        Checks.dueThrown("right to 0", () -> house.right(0, 0, 0));
        Checks.due("right to 100000", house.right(0, 0, 100000), 0);
        Checks.due("it was 100000", house.sells(0, 0), 100000);
        Checks.dueThrown("right to 100001", () -> house.right(0, 0, 100001));
        Checks.due("right to 1", house.right(0, 0, 1), 0);
        Checks.due("it was 1", house.sells(0, 0), 1);
    }

    /** "PAPERS, 20 at most"; refused ones take no number. */
    private static void twentyPapers() {
        PanelHouse house = new PanelHouse();
        for (int i = 0; i < 20; i++) {
            Checks.due("refused between", house.paper(1000, 0, 1), NONE);
            Checks.due("paper " + i, house.paper(i, 0, i + 1), i);
        }
        Checks.due("a 21st", house.paper(0, 0, 1), NONE);
        Checks.due("a 22nd, of other numbers", house.paper(0, 0, 0), NONE);
        Checks.due("twenty", house.count(1), 20);
        Checks.due("the twentieth", house.sells(19, 0), 20);
        Checks.due("no twenty-first", house.sells(20, 0), NONE);
    }

    /** "that of each MONTH being the last one told by its end": told behind week 3 it counts, behind week 4 not. */
    private static void lastOneToldByTheEndOfTheMonth() {
        PanelHouse house = house(0);
        house.circulation(0, 11);
        house.weeks(3);
        house.circulation(0, 12);
        house.circulation(0, 13);
        house.weeks(1);
        house.circulation(0, 14);
        Checks.due("month 0", house.sells(0, 0), 13);
        Checks.due("month 1", house.sells(0, 1), 14);
        house.weeks(8);
        Checks.due("month 1 at its end", house.sells(0, 1), 14);
        Checks.due("month 2, without a word", house.sells(0, 2), 14);
        Checks.due("month 3, the running one", house.sells(0, 3), 14);
    }

    /** "unless it was put right": that month alone, and for good. */
    private static void unlessItWasPutRight() {
        PanelHouse house = house(0);
        house.weeks(12);
        house.right(0, 1, 77);
        Checks.due("month 0", house.sells(0, 0), 1000);
        Checks.due("month 1", house.sells(0, 1), 77);
        Checks.due("month 2", house.sells(0, 2), 1000);
        Checks.due("month 3", house.sells(0, 3), 1000);
        Checks.due("the other paper", house.sells(1, 1), 1000);
        house.circulation(0, 88);
        Checks.due("month 1 behind a word", house.sells(0, 1), 77);
        house.right(0, 1, 66);
        Checks.due("month 1, the last right", house.sells(0, 1), 66);
    }

    /** "(ahead of its coming as at first)". */
    private static void aheadOfItsComingAsAtFirst() {
        PanelHouse house = new PanelHouse();
        house.weeks(8);
        house.paper(0, 0, 500);
        house.circulation(0, 600);
        Checks.due("month 0", house.sells(0, 0), 500);
        Checks.due("month 1", house.sells(0, 1), 500);
        Checks.due("month 2, in which it came", house.sells(0, 2), 600);
        house.weeks(4);
        house.circulation(0, 700);
        Checks.due("month 1, later", house.sells(0, 1), 500);
        Checks.due("month 2, later", house.sells(0, 2), 600);
        Checks.due("month 3", house.sells(0, 3), 700);
    }

    /** "CONTRACTS ...: run from the next WEEK on". */
    private static void contractsFromTheNextWeek() {
        PanelHouse house = house(0);
        house.weeks(7);
        house.sign(0, 0);
        Checks.due("first week", house.look(0, 2), 8);
        Checks.due("nothing of week 7", house.look(0, 5) + house.look(0, 7), 0);
        house.weeks(1);
        Checks.due("the panel of week 8", house.look(0, 5), 1);
    }

    /** "CONTRACTS, 60 at most"; refused ones take no number, ended ones stay there. */
    private static void sixtyContracts() {
        PanelHouse house = new PanelHouse();
        for (int i = 0; i < 4; i++) {
            house.feature(0, 0, 1, 1, 1);
        }
        for (int i = 0; i < 20; i++) {
            house.paper(0, 0, 1);
        }
        for (int i = 0; i < 60; i++) {
            Checks.due("refused between", house.sign(20, 0), 1);
            Checks.due("contract " + i, house.sign(i % 20, i / 20), 100 + i);
        }
        Checks.due("a 61st", house.sign(0, 3), 1);
        Checks.due("sixty", house.count(2), 60);
        Checks.due("the sixtieth", house.look(59, 1), 2);
        Checks.dueThrown("no sixty-first", () -> house.look(60, 1));
        house.cancel(5);
        house.weeks(4);
        Checks.due("a 61st, one having ended", house.sign(5, 0), 1);
    }

    /** "refused, with the first of: 1 .., 2 .., 3 .., 4 ..": each ahead of all behind it. */
    private static void firstReasonOfSeveral() {
        PanelHouse house = house(51);
        house.sign(0, 0);
        house.stop(0, true);
        Checks.due("1 with 4: no such paper", house.sign(2, 0), 1);
        Checks.due("2 with 4", house.sign(0, 0), 2);
        Checks.due("3 with 4", house.sign(1, 0), 3);
        house.paper(900, 900, 1);
        Checks.due("4 alone", house.sign(2, 0), 4);
        PanelHouse both = new PanelHouse();
        both.feature(0, 100, 1, 1, 1);
        both.paper(0, 0, 1);
        both.paper(150, 0, 1);
        both.paper(75, 0, 1);
        both.sign(0, 0);
        both.sign(1, 0);
        Checks.due("3 by either", both.sign(2, 0), 3);
        Checks.due("2, not its own neighbour", both.sign(1, 0), 2);
    }

    /** "2 it has one that runs in the next WEEK": up to the week ahead of its last one. */
    private static void oneThatRunsInTheNextWeek() {
        PanelHouse house = house(0);
        house.feature(0, 0, 1, 1, 1);
        house.sign(0, 0);
        Checks.due("the same", house.sign(0, 0), 2);
        Checks.due("another feature", house.sign(0, 1), 101);
        Checks.due("another paper", house.sign(1, 0), 102);
        house.cancel(0);
        house.weeks(3);
        Checks.due("week 4 is its last", house.sign(0, 0), 2);
        house.weeks(1);
        Checks.due("it doesn't run in week 5", house.sign(0, 0), 103);
        Checks.due("the new one does", house.sign(0, 0), 2);
    }

    /** "lies nearer than its miles (the square of the way below the square of the miles)". */
    private static void nearerThanItsMiles() {
        int[] miles = {0, 49, 50, 51, 500};
        for (int most : miles) {
            PanelHouse house = house(most);
            house.sign(0, 0);
            Checks.due("50 miles of " + most, house.sign(1, 0), most > 50 ? 3 : 101);
        }
        for (int dx = -1; dx <= 1; dx++) {
            for (int dy = -1; dy <= 1; dy++) {
                PanelHouse house = new PanelHouse();
                house.feature(0, 1, 1, 1, 1);
                house.paper(500, 500, 1);
                house.paper(500 + dx, 500 + dy, 1);
                house.sign(0, 0);
                Checks.due("a step of " + dx + ", " + dy, house.sign(1, 0), dx == 0 && dy == 0 ? 3 : 101);
            }
        }
        PanelHouse corners = new PanelHouse();
        corners.feature(0, 500, 1, 1, 1);
        corners.paper(0, 0, 1);
        corners.paper(999, 999, 1);
        corners.paper(499, 31, 1);
        corners.paper(499, 32, 1);
        corners.sign(0, 0);
        Checks.due("the far corner", corners.sign(1, 0), 101);
        Checks.due("249962 below 250000", corners.sign(2, 0), 3);
        Checks.due("250025 not below 250000", corners.sign(3, 0), 102);
    }

    /** "3 BARRED: another PAPER with a CONTRACT for the FEATURE that runs in the next WEEK". */
    private static void neighbourThatRunsInTheNextWeek() {
        PanelHouse house = house(51);
        house.feature(0, 51, 1, 1, 1);
        Checks.due("no neighbour has it", house.sign(0, 0), 100);
        Checks.due("barred ahead of its first week", house.sign(1, 0), 3);
        Checks.due("another feature", house.sign(1, 1), 101);
        house.cancel(0);
        house.weeks(3);
        Checks.due("week 4 is the neighbour's last", house.sign(1, 0), 3);
        house.weeks(1);
        Checks.due("the neighbour doesn't run in week 5", house.sign(1, 0), 102);
    }

    /** "4 the FEATURE is stopped", as soon as it is told, until it goes on. */
    private static void stoppedOne() {
        PanelHouse house = house(0);
        house.stop(0, true);
        Checks.due("at once", house.sign(0, 0), 4);
        house.weeks(1);
        Checks.due("a week later", house.sign(0, 0), 4);
        house.stop(0, false);
        Checks.due("it goes on", house.sign(0, 0), 100);
    }

    /** "Cancelled a CONTRACT runs four WEEKS more (WEEKS NOW + 1 to NOW + 4)." */
    private static void cancelledFourWeeksMore() {
        PanelHouse house = house(0);
        house.sign(0, 0);
        house.weeks(6);
        Checks.due("its last week", house.cancel(0), 10);
        for (int week = 7; week <= 12; week++) {
            Checks.due("runs in week " + week, house.look(0, 4), week <= 10 ? 1 : 0);
            Checks.due("counted for week " + week, house.count(4), week <= 10 ? 1 : 0);
            house.weeks(1);
            Checks.due("printed by week " + week, house.look(0, 5), Math.min(week, 10));
        }
        Checks.due("open at its end", house.look(0, 7), 0);
        PanelHouse early = house(0);
        early.sign(0, 0);
        Checks.due("ahead of its first week", early.cancel(0), 4);
        early.weeks(5);
        Checks.due("four weeks", early.look(0, 5), 4);
    }
}
