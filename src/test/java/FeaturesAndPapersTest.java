/** Promises 1 to 4 and 19: a new object, features, papers and their circulations. */
public final class FeaturesAndPapersTest {
    public static void main(String[] args) {
        newObject();
        features();
        featureLimit();
        papers();
        paperLimit();
        circulation();
        sells();
        sellsOfLatePaper();
        sellsAtTheLastWeek();
        Checks.end();
    }

    private static void newObject() {
        PanelHouse house = new PanelHouse();
        for (int what = 0; what <= 7; what++) {
            Checks.due("new: count " + what, house.count(what), 0);
        }
        Checks.due("new: panel", house.panel(0), PanelHouse.NONE);
        Checks.due("new: sells", house.sells(0, 0), PanelHouse.NONE);
        Checks.due("new: share", house.share(0, 0), PanelHouse.NONE);
        Checks.due("new: sign", house.sign(0, 0), 1);
        Checks.due("new: weeks(0)", house.weeks(0), 0);
        Checks.dueThrown("new: look", () -> house.look(0, 0));
        Checks.dueThrown("new: income", () -> house.income(0));
        Checks.dueThrown("new: right", () -> house.right(0, 0, 1));
    }

    private static void features() {
        int none = PanelHouse.NONE;
        PanelHouse house = new PanelHouse();
        Checks.due("kind -1", house.feature(-1, 0, 1, 1, 1), none);
        Checks.due("kind 4", house.feature(4, 0, 1, 1, 1), none);
        Checks.due("miles -1", house.feature(0, -1, 1, 1, 1), none);
        Checks.due("miles 501", house.feature(0, 501, 1, 1, 1), none);
        Checks.due("share a -1", house.feature(0, 0, -1, 1, 1), none);
        Checks.due("share b -1", house.feature(0, 0, 1, -1, 1), none);
        Checks.due("share c -1", house.feature(0, 0, 1, 1, -1), none);
        Checks.due("share a 101", house.feature(0, 0, 101, 1, 1), none);
        Checks.due("share b 101", house.feature(0, 0, 1, 101, 1), none);
        Checks.due("share c 101", house.feature(0, 0, 1, 1, 101), none);
        Checks.due("no shares", house.feature(0, 0, 0, 0, 0), none);
        Checks.due("shares that wrap to nothing", house.feature(0, 0, 1 << 31, 1 << 31, 0), none);
        Checks.due("shares with sum 0", house.feature(0, 0, 1, -1, 0), none);
        Checks.due("least", house.feature(0, 0, 1, 0, 0), 0);
        Checks.due("b alone", house.feature(1, 1, 0, 1, 0), 1);
        Checks.due("c alone", house.feature(2, 2, 0, 0, 1), 2);
        Checks.due("most", house.feature(3, 500, 100, 100, 100), 3);
        Checks.due("features", house.count(0), 4);
    }

    private static void featureLimit() {
        PanelHouse house = new PanelHouse();
        for (int i = 0; i < 10; i++) {
            Checks.due("feature " + i, house.feature(i % 4, i, 1, 2, 3), i);
        }
        Checks.due("an 11th feature", house.feature(0, 0, 1, 1, 1), PanelHouse.NONE);
        Checks.due("ten features", house.count(0), 10);
        Checks.due("the tenth", house.panel(9), 0);
    }

    private static void papers() {
        int none = PanelHouse.NONE;
        PanelHouse house = new PanelHouse();
        Checks.due("x -1", house.paper(-1, 0, 1), none);
        Checks.due("y -1", house.paper(0, -1, 1), none);
        Checks.due("x 1000", house.paper(1000, 0, 1), none);
        Checks.due("y 1000", house.paper(0, 1000, 1), none);
        Checks.due("circulation 0", house.paper(0, 0, 0), none);
        Checks.due("circulation 100001", house.paper(0, 0, 100001), none);
        Checks.due("circulation below 0", house.paper(0, 0, Integer.MIN_VALUE), none);
        Checks.due("least", house.paper(0, 0, 1), 0);
        Checks.due("most", house.paper(999, 999, 100000), 1);
        Checks.due("papers", house.count(1), 2);
        Checks.due("least sells", house.sells(0, 0), 1);
        Checks.due("most sells", house.sells(1, 0), 100000);
    }

    private static void paperLimit() {
        PanelHouse house = new PanelHouse();
        for (int i = 0; i < 20; i++) {
            Checks.due("paper " + i, house.paper(i, i, i + 1), i);
        }
        Checks.due("a 21st paper", house.paper(0, 0, 1), PanelHouse.NONE);
        Checks.due("twenty papers", house.count(1), 20);
    }

    private static void circulation() {
        PanelHouse house = new PanelHouse();
        Checks.due("none there", house.circulation(0, 5), false);
        house.paper(0, 0, 700);
        house.paper(0, 0, 800);
        Checks.due("paper -1", house.circulation(-1, 5), false);
        Checks.due("paper 2", house.circulation(2, 5), false);
        Checks.due("n 0", house.circulation(0, 0), false);
        Checks.due("n 100001", house.circulation(0, 100001), false);
        Checks.due("unchanged", house.sells(0, 0), 700);
        Checks.due("n 1", house.circulation(0, 1), true);
        Checks.due("told 1", house.sells(0, 0), 1);
        Checks.due("n 100000", house.circulation(0, 100000), true);
        Checks.due("told 100000", house.sells(0, 0), 100000);
        Checks.due("the same again", house.circulation(0, 100000), true);
        Checks.due("the other paper", house.sells(1, 0), 800);
    }

    private static void sells() {
        PanelHouse house = new PanelHouse();
        house.paper(0, 0, 10);
        house.weeks(3);
        Checks.due("month 0 runs", house.sells(0, 0), 10);
        Checks.due("month 1 is to come", house.sells(0, 1), PanelHouse.NONE);
        house.circulation(0, 20);
        house.weeks(1);
        Checks.due("month 1 runs at its start", house.sells(0, 1), 20);
        house.circulation(0, 30);
        Checks.due("month 0 is over", house.sells(0, 0), 20);
        Checks.due("month 1 as it is now", house.sells(0, 1), 30);
        house.weeks(3);
        house.circulation(0, 40);
        Checks.due("month 1 again", house.sells(0, 1), 40);
        house.weeks(9);
        Checks.due("month 2 without a word", house.sells(0, 2), 40);
        Checks.due("month 4 runs", house.sells(0, 4), 40);
        Checks.due("month 5 is to come", house.sells(0, 5), PanelHouse.NONE);
        Checks.due("month -1", house.sells(0, -1), PanelHouse.NONE);
        Checks.due("paper 1", house.sells(1, 0), PanelHouse.NONE);
        Checks.due("paper -1", house.sells(-1, 0), PanelHouse.NONE);
        house.right(0, 2, 77);
        Checks.due("month 1 beside a right", house.sells(0, 1), 40);
        Checks.due("month 2 put right", house.sells(0, 2), 77);
        Checks.due("month 3 beside a right", house.sells(0, 3), 40);
        Checks.due("month 4 beside a right", house.sells(0, 4), 40);
        house.circulation(0, 50);
        Checks.due("month 2 stays right", house.sells(0, 2), 77);
    }

    private static void sellsOfLatePaper() {
        PanelHouse house = new PanelHouse();
        house.weeks(13);
        house.paper(5, 5, 600);
        house.circulation(0, 900);
        Checks.due("ahead of its coming", house.sells(0, 0), 600);
        Checks.due("just ahead of its coming", house.sells(0, 2), 600);
        Checks.due("the month of its coming", house.sells(0, 3), 900);
        Checks.due("put right ahead of its coming", house.right(0, 1, 650), 0);
        Checks.due("as put right", house.sells(0, 1), 650);
    }

    private static void sellsAtTheLastWeek() {
        PanelHouse house = new PanelHouse();
        house.paper(0, 0, 3);
        for (int i = 0; i < 20; i++) {
            house.weeks(10);
        }
        Checks.due("told behind the last week", house.circulation(0, 4), true);
        Checks.due("the last month", house.sells(0, 49), 3);
        Checks.due("behind the last month", house.sells(0, 50), 4);
        Checks.due("far behind", house.sells(0, 51), PanelHouse.NONE);
        Checks.due("the last month put right", house.right(0, 49, 5), 0);
        Checks.due("the last month, right", house.sells(0, 49), 5);
        Checks.dueThrown("month 50 is not over", () -> house.right(0, 50, 5));
    }
}
