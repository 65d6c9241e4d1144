/** Promises 5, 17 and 18, and what a text makes of a bill. */
public final class BillsTest {
    public static void main(String[] args) {
        rules();
        facts();
        cut();
        noText();
        textAtTheEndOfTheMonth();
        weeksOfTheMonth();
        printedInTheMonth();
        circulationOfTheMonth();
        right();
        rightOfSeveral();
        rightRefused();
        income();
        shares();
        greatest();
        Checks.end();
    }

    /** One contract of kind 2 with a circulation of 7900 prints 4 panels in month 0: the bill of a rate r is r * 31.6. */
    private static PanelHouse house() {
        PanelHouse house = new PanelHouse();
        house.feature(2, 0, 1, 1, 1);
        house.paper(0, 0, 7900);
        house.sign(0, 0);
        return house;
    }

    private static int billOf(String text) {
        PanelHouse house = house();
        Checks.due("text '" + text + "'", Checks.read(house, text), 0);
        house.weeks(4);
        return house.look(0, 9);
    }

    private static void holds(String e, boolean want) {
        Checks.due(e, billOf("rate 10 when " + e + ";") == 316, want);
        Checks.due(e + ", else", billOf("rate 10 when " + e + "; rate 5 when 1;"), want ? 316 : 158);
    }

    private static void rules() {
        holds("0", false);
        holds("1", true);
        holds("9999", true);
        holds("0-1", true);
        holds("1-1", false);
        holds("3-1-1", true);
        holds("3-1-2", false);
        holds("3-(1-2)=4", true);
        holds("3-1+2=4", true);
        holds("1+2=3", true);
        holds("3=1+2", true);
        holds("1<2", true);
        holds("2<2", false);
        holds("3<2", false);
        holds("0-1<0", true);
        holds("2=2", true);
        holds("2=3", false);
        holds("(5<6)=1", true);
        holds("(6<5)=0", true);
        holds("(5=5)+(6=6)=2", true);
        holds("1 and 2", true);
        holds("(3 and 2)=1", true);
        holds("(3 and (0-2))=1", true);
        holds("(3 and 0)=0", true);
        holds("0 and 1", false);
        holds("1 and 0", false);
        holds("1 and 1 and 0", false);
        holds("1 and 0 and 1", false);
        holds("0 and 1 and 1", false);
        holds("1 and 1 and 1", true);
        holds("1 and 1<1", false);
        holds("2 and 1<2", true);
        holds("(2 and 1)<2", true);
        holds("(((9-8)+1)=2) and (((1)))", true);
        holds("1+(2 and (3<(4+(0))))=2", true);
        holds("9999+9999=9999+9998+1", true);
    }

    private static void facts() {
        holds("kind=2", true);
        holds("thousands=7", true);
        holds("printed=4", true);
        holds("month=0", true);
        holds("weeks=4", true);
        holds("kind+thousands+printed+month+weeks=17", true);
        holds("kind-2", false);
        holds("month", false);
        PanelHouse house = house();
        Checks.read(house, "rate 1 when month=0; rate 2 when month=1; rate 3 when month;");
        house.weeks(4);
        Checks.due("month 0", house.look(0, 9), 31);
        house.weeks(4);
        Checks.due("month 1", house.look(0, 9), 31 + 63);
        house.weeks(4);
        Checks.due("month 2", house.look(0, 9), 31 + 63 + 94);
    }

    private static void cut() {
        Checks.due("without a line", billOf("rate 9 when 0;"), 0);
        Checks.due("rate 0", billOf("rate 0 when 1; rate 9 when 1;"), 0);
        Checks.due("31.6", billOf("rate 1 when 1;"), 31);
        Checks.due("63.2", billOf("rate 2 when 1;"), 63);
        Checks.due("the first line that holds", billOf("rate 3 when 0; rate 2 when 5; rate 1 when 1;"), 63);
        Checks.due("999", billOf("rate 999 when 1;"), 31568);
        PanelHouse house = new PanelHouse();
        house.feature(0, 0, 1, 0, 0);
        house.paper(0, 0, 249);
        house.sign(0, 0);
        Checks.read(house, "rate 1 when thousands=0;");
        house.weeks(4);
        Checks.due("0.996", house.look(0, 9), 0);
        house.circulation(0, 250);
        house.weeks(4);
        Checks.due("1", house.look(0, 9), 1);
    }

    private static void noText() {
        PanelHouse house = house();
        house.weeks(4);
        Checks.due("no text", house.look(0, 9), 0);
        Checks.read(house, "rate 10 when 1;");
        Checks.due("a month is billed once", house.look(0, 9), 0);
        Checks.due("by the text of that month: none", house.right(0, 0, 100000), 0);
        house.weeks(4);
        Checks.due("month 1", house.look(0, 9), 316);
    }

    private static void textAtTheEndOfTheMonth() {
        PanelHouse house = house();
        Checks.read(house, "rate 10 when 1;");
        house.weeks(3);
        Checks.due("not ahead of the end", house.look(0, 9), 0);
        Checks.read(house, "rate 20 when 1;");
        house.weeks(1);
        Checks.due("the text at the end", house.look(0, 9), 632);
        Checks.read(house, "rate 30 when 1;");
        Checks.read(house, "rate 1000 when 1;");
        house.weeks(4);
        Checks.due("a faulty one changes nothing", house.look(0, 9), 632 + 948);
        house.text();
        house.weeks(4);
        Checks.due("an empty one bills nothing", house.look(0, 9), 632 + 948);
        Checks.due("put right by the first month's", house.right(0, 0, 10000), 800 - 632);
        Checks.due("put right by the second month's", house.right(0, 1, 10000), 1200 - 948);
        Checks.due("put right by the empty one", house.right(0, 2, 10000), 0);
    }

    private static void weeksOfTheMonth() {
        PanelHouse house = new PanelHouse();
        house.feature(0, 0, 1, 0, 0);
        house.paper(0, 0, 1000);
        Checks.read(house, "rate 100 when weeks=1; rate 200 when weeks=2; rate 300 when weeks=3; rate 400 when weeks=4;");
        house.weeks(1);
        house.sign(0, 0);
        house.weeks(3);
        Checks.due("three weeks", house.look(0, 9), 3 * 300);
        house.weeks(2);
        house.cancel(0);
        house.weeks(2);
        Checks.due("all weeks, cancelled within", house.look(0, 9), 900 + 1600);
        house.weeks(2);
        house.sign(0, 0);
        house.weeks(2);
        Checks.due("its last two weeks", house.look(0, 9), 2500 + 400);
        Checks.due("the first two of the next", house.look(1, 9), 400);
        house.weeks(4);
        Checks.due("no bill behind its end", house.look(0, 9), 2900);
        Checks.due("a bill for the next", house.look(1, 9), 400 + 1600);
        house.cancel(1);
        Checks.due("a later end changes no bill", house.right(0, 3, 2000), 1600);
        Checks.due("one week", house.weeks(1), 17);
        Checks.due("both of one month are put right", house.right(0, 2, 2000), 800);
        Checks.due("of the first", house.look(0, 9), 2900 + 400);
        Checks.due("of the second", house.look(1, 9), 400 + 1600 + 1600 + 400);
        house.paper(0, 0, 1000);
        house.weeks(2);
        house.sign(1, 0);
        house.weeks(1);
        Checks.due("one week alone", house.look(2, 9), 100);
    }

    private static void printedInTheMonth() {
        PanelHouse house = new PanelHouse();
        house.feature(0, 0, 1, 0, 0);
        house.paper(0, 0, 1000);
        house.sign(0, 0);
        Checks.read(house, "rate 100 when printed=5; rate 10 when printed=2; rate 1 when printed<2;");
        house.weeks(2);
        house.miss(0);
        house.weeks(2);
        Checks.due("two were printed", house.look(0, 9), 20);
        house.weeks(1);
        house.send(0);
        house.weeks(3);
        Checks.due("five were printed", house.look(0, 9), 20 + 500);
        house.stop(0, true);
        house.weeks(4);
        Checks.due("one was left", house.look(0, 9), 520 + 1);
        house.weeks(4);
        Checks.due("none", house.look(0, 9), 521);
        Checks.due("none is put right to none", house.right(0, 3, 100000), 0);
        Checks.due("one is put right", house.right(0, 2, 100000), 99);
    }

    private static void circulationOfTheMonth() {
        PanelHouse house = house();
        Checks.read(house, "rate 10 when 1;");
        house.circulation(0, 1000);
        house.weeks(3);
        house.circulation(0, 2000);
        house.weeks(1);
        house.circulation(0, 3000);
        Checks.due("by the end of the month", house.look(0, 9), 80);
        house.weeks(4);
        Checks.due("from the running month on", house.look(0, 9), 80 + 120);
        house.right(0, 0, 50000);
        house.weeks(4);
        Checks.due("a right is for its month alone", house.look(0, 9), 2000 + 120 + 120);
    }

    private static void right() {
        PanelHouse house = house();
        Checks.read(house, "rate 10 when thousands<10; rate 1 when 1;");
        house.weeks(8);
        Checks.due("billed", house.look(0, 9), 632);
        Checks.due("more", house.right(0, 0, 9000), 44);
        Checks.due("another line", house.right(0, 0, 10000), 40 - 360);
        Checks.due("the same", house.right(0, 0, 10000), 0);
        Checks.due("to the least", house.right(0, 0, 1), -40);
        Checks.due("to the most", house.right(0, 0, 100000), 400);
        Checks.due("month 1 stands by itself", house.right(0, 1, 100000), 400 - 316);
        Checks.due("all in all", house.look(0, 9), 800);
        Checks.due("income", house.income(0), 800);
        Checks.due("sells", house.sells(0, 0), 100000);
    }

    private static void rightOfSeveral() {
        PanelHouse house = house();
        house.feature(1, 0, 1, 1, 1);
        house.paper(0, 0, 7900);
        house.sign(0, 1);
        house.sign(1, 0);
        Checks.read(house, "rate 10 when kind=1; rate 20 when 1;");
        house.weeks(4);
        house.sign(1, 1);
        Checks.due("all bills of the paper", house.right(0, 0, 8000), 8 + 4);
        Checks.due("the first", house.look(0, 9), 640);
        Checks.due("the second", house.look(1, 9), 320);
        Checks.due("another paper's", house.look(2, 9), 632);
        Checks.due("a month ahead of it", house.look(3, 9), 0);
        Checks.due("income of kind 2", house.income(0), 640 + 632);
        Checks.due("income of kind 1", house.income(1), 320);
    }

    private static void rightRefused() {
        PanelHouse house = house();
        Checks.read(house, "rate 10 when 1;");
        house.weeks(3);
        Checks.dueThrown("month 0 runs", () -> house.right(0, 0, 5));
        house.weeks(1);
        Checks.due("month 0 is over", house.right(0, 0, 7900), 0);
        Checks.dueThrown("month 1 runs", () -> house.right(0, 1, 5));
        Checks.dueThrown("month -1", () -> house.right(0, -1, 5));
        Checks.dueThrown("month far off", () -> house.right(0, Integer.MAX_VALUE, 5));
        Checks.dueThrown("paper 1", () -> house.right(1, 0, 5));
        Checks.dueThrown("paper -1", () -> house.right(-1, 0, 5));
        Checks.dueThrown("n 0", () -> house.right(0, 0, 0));
        Checks.dueThrown("n 100001", () -> house.right(0, 0, 100001));
        Checks.due("nothing was changed", house.sells(0, 0), 7900);
        Checks.due("nothing was billed", house.look(0, 9), 316);
    }

    private static void income() {
        PanelHouse house = house();
        Checks.due("none yet", house.income(0), 0);
        Checks.dueThrown("1", () -> house.income(1));
        Checks.dueThrown("-1", () -> house.income(-1));
        Checks.due("share of none", house.share(0, 0), 0);
    }

    private static void sharesOf(int income, int[] parts, int[] want) {
        PanelHouse house = new PanelHouse();
        house.feature(0, 0, parts[0], parts[1], parts[2]);
        house.paper(0, 0, 1000);
        house.sign(0, 0);
        house.ill(0, 3);
        Checks.read(house, "rate " + income + " when 1;");
        house.weeks(4);
        Checks.due("income " + income, house.income(0), income);
        for (int author = 0; author < 3; author++) {
            Checks.due("author " + author + " of " + income, house.share(0, author), want[author]);
        }
        Checks.due("author 3", house.share(0, 3), PanelHouse.NONE);
        Checks.due("author -1", house.share(0, -1), PanelHouse.NONE);
        Checks.due("feature 1", house.share(1, 0), PanelHouse.NONE);
        Checks.due("feature -1", house.share(-1, 0), PanelHouse.NONE);
    }

    private static void shares() {
        sharesOf(0, new int[] {1, 1, 1}, new int[] {0, 0, 0});
        sharesOf(1, new int[] {1, 1, 1}, new int[] {1, 0, 0});
        sharesOf(2, new int[] {1, 1, 1}, new int[] {1, 1, 0});
        sharesOf(3, new int[] {1, 1, 1}, new int[] {1, 1, 1});
        sharesOf(1, new int[] {0, 1, 1}, new int[] {0, 1, 0});
        sharesOf(1, new int[] {30, 30, 40}, new int[] {0, 0, 1});
        sharesOf(1, new int[] {30, 40, 30}, new int[] {0, 1, 0});
        sharesOf(2, new int[] {30, 30, 40}, new int[] {1, 0, 1});
        sharesOf(2, new int[] {20, 40, 40}, new int[] {0, 1, 1});
        sharesOf(7, new int[] {50, 30, 20}, new int[] {4, 2, 1});
        sharesOf(999, new int[] {100, 100, 100}, new int[] {333, 333, 333});
        sharesOf(998, new int[] {100, 0, 100}, new int[] {499, 0, 499});
        sharesOf(997, new int[] {0, 0, 1}, new int[] {0, 0, 997});
        sharesOf(10, new int[] {1, 98, 1}, new int[] {0, 10, 0});
        sharesOf(995, new int[] {99, 100, 98}, new int[] {332, 335, 328});
    }

    /** Twenty papers with all that can be sold: income and its products go beyond an int. */
    private static void greatest() {
        PanelHouse house = new PanelHouse();
        house.feature(3, 0, 100, 99, 98);
        for (int i = 0; i < 20; i++) {
            house.paper(0, 0, 100000);
            house.sign(i, 0);
        }
        Checks.read(house, "rate 999 when 1;");
        for (int i = 0; i < 20; i++) {
            house.weeks(10);
        }
        Checks.due("one contract", house.look(0, 9), 200 * 99900);
        Checks.due("income", house.income(0), 399600000);
        Checks.due("author 0", house.share(0, 0), 134545455);
        Checks.due("author 1", house.share(0, 1), 133200000);
        Checks.due("author 2", house.share(0, 2), 131854545);
    }
}
