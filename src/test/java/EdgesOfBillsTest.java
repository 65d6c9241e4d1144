/** What is billed, put right and shared (the document's third and fourth part, promises 5, 17 and 18), at its edges. */
public final class EdgesOfBillsTest {
    private static final int NONE = PanelHouse.NONE;

    public static void main(String[] args) {
        asAMonthEnds();
        severalMonthsInOneCall();
        contractThatRanInOneWeek();
        contractThatRanInNone();
        byTheTextAsItIsThen();
        theFirstLineThatIsNotNothing();
        cut();
        nothingWithoutALine();
        kinds();
        thousands();
        printed();
        months();
        weeks();
        andTellsOneOrNothing();
        lessAndSame();
        fromTheLeft();
        fiveWithinOneAnother();
        monthThatIsOver();
        rightByTheTextOfThatMonth();
        rightMayBeBelowNothing();
        rightOfEachBill();
        rightAheadOfItsComing();
        refusedRightIsWholly();
        incomeIsAllThatWasBilled();
        sharesCut();
        greatestRests();
        sharesOfNothing();
        greatestIncome();
        Checks.end();
    }

    private static PanelHouse house(int kind, int circulation) {
        PanelHouse house = new PanelHouse();
        house.feature(kind, 0, 1, 1, 1);
        house.paper(0, 0, circulation);
        house.sign(0, 0);
        return house;
    }

    private static PanelHouse house(String text) {
        PanelHouse house = house(0, 1000);
        Checks.due("text " + text, Checks.read(house, text), 0);
        return house;
    }

    private static void pass(PanelHouse house, int weeks) {
        for (int left = weeks; left > 0; left -= 30) {
            house.weeks(Math.min(left, 30));
        }
    }

    /** Four panels of kind 0 at a circulation of 1000 in month 0: at rate 1 the bill is 4. */
    private static int billBy(String text) {
        PanelHouse house = house(text);
        house.weeks(4);
        return house.look(0, 9);
    }

    private static void value(String e, int want) {
        Checks.due(e + " is " + want, billBy("rate 1 when (" + e + ")=" + want + ";"), 4);
        Checks.due(e + " is " + want + " alone", billBy("rate 1 when (" + e + ")=" + (want + 1) + ";"), 0);
    }

    /** "BILLED: as a MONTH ends": with week 4, not with week 3, and once. */
    private static void asAMonthEnds() {
        PanelHouse house = house("rate 1 when 1;");
        int[] wants = {0, 0, 0, 4, 4, 4, 4, 8, 8};
        for (int week = 1; week <= 9; week++) {
            house.weeks(1);
            Checks.due("billed by week " + week, house.look(0, 9), wants[week - 1]);
            Checks.due("income by week " + week, house.income(0), wants[week - 1]);
        }
        pass(house, 190);
        Checks.due("by week 199", house.look(0, 9), 49 * 4);
        house.weeks(1);
        Checks.due("by week 200", house.look(0, 9), 200);
        house.weeks(0);
        Checks.due("no week, no bill", house.look(0, 9), 200);
    }

    /** "BILLED: as a MONTH ends", each of those that end within one call of weeks. */
    private static void severalMonthsInOneCall() {
        PanelHouse house = house("rate 1 when month=0; rate 10 when month=6; rate 100 when month=7;");
        house.weeks(30);
        Checks.due("months 0 to 6", house.look(0, 9), 4 + 40);
        house.weeks(2);
        Checks.due("month 7", house.look(0, 9), 4 + 40 + 400);
    }

    /** "each CONTRACT that ran in one of its WEEKS": the last of them alone, the first of them alone. */
    private static void contractThatRanInOneWeek() {
        PanelHouse house = new PanelHouse();
        house.feature(0, 0, 1, 1, 1);
        house.paper(0, 0, 1000);
        Checks.read(house, "rate 100 when weeks=1; rate 1 when 1;");
        house.weeks(3);
        house.sign(0, 0);
        house.weeks(1);
        Checks.due("week 4 alone", house.look(0, 9), 100);
        house.weeks(1);
        house.cancel(0);
        house.weeks(3);
        Checks.due("all of month 1", house.look(0, 9), 104);
        house.weeks(1);
        Checks.due("month 2 is not over", house.look(0, 9), 104);
        house.weeks(3);
        Checks.due("week 9 alone", house.look(0, 9), 204);
    }

    /** "each CONTRACT that ran in one of its WEEKS": one that began behind the month, or ended ahead of it, has no bill. */
    private static void contractThatRanInNone() {
        PanelHouse house = house("rate 1 when 1;");
        house.cancel(0);
        house.weeks(4);
        house.sign(0, 0);
        Checks.due("signed behind month 0", house.look(1, 9), 0);
        Checks.due("month 0 put right", house.right(0, 0, 3000), 8);
        Checks.due("none of it for the new one", house.look(1, 9), 0);
        house.weeks(4);
        Checks.due("it ended with month 0", house.look(0, 9), 12);
        Checks.due("month 1 put right", house.right(0, 1, 3000), 8);
        Checks.due("none of it for the ended one", house.look(0, 9), 12);
        Checks.due("all of it for the new one", house.look(1, 9), 12);
    }

    /** "by the text as it is then": one read in week 4's stead is early enough, one read behind it too late. */
    private static void byTheTextAsItIsThen() {
        PanelHouse house = house("rate 1 when 1;");
        house.weeks(3);
        Checks.read(house, "rate 10 when 1;");
        house.weeks(1);
        Checks.read(house, "rate 100 when 1;");
        Checks.due("month 0", house.look(0, 9), 40);
        house.weeks(3);
        house.text();
        house.weeks(1);
        Checks.due("month 1, by an empty text", house.look(0, 9), 40);
        Checks.read(house, "rate 1 when 1;");
        Checks.read(house, "rate 999 when 1");
        house.weeks(4);
        Checks.due("month 2, a faulty one read last", house.look(0, 9), 44);
        for (int i = 4; i < 20; i++) {
            Checks.read(house, "rate 2 when 1;");
        }
        Checks.due("a 21st", Checks.read(house, "rate 999 when 1;"), NONE);
        house.weeks(4);
        Checks.due("month 3, by the 20th", house.look(0, 9), 52);
    }

    /** "the first line whose E is not 0": also if it is below 0, or its rate is 0, or it is the 16th. */
    private static void theFirstLineThatIsNotNothing() {
        Checks.due("1", billBy("rate 1 when 1; rate 2 when 1;"), 4);
        Checks.due("0", billBy("rate 1 when 0; rate 2 when 1;"), 8);
        Checks.due("-1", billBy("rate 1 when 0-1; rate 2 when 1;"), 4);
        Checks.due("9999", billBy("rate 1 when 9999; rate 2 when 1;"), 4);
        Checks.due("rate 0", billBy("rate 0 when 1; rate 2 when 1;"), 0);
        Checks.due("rate 999", billBy("rate 999 when 1;"), 3996);
        Checks.due("the 16th", billBy(Checks.times("rate 1 when 0;", 15) + "rate 7 when 1;"), 28);
    }

    /** "N * printed * circulation / 1000, cut". */
    private static void cut() {
        int[] circulations = {1, 249, 250, 251, 499, 500, 999, 100000};
        int[] wants = {0, 0, 1, 1, 1, 2, 3, 400};
        for (int i = 0; i < circulations.length; i++) {
            PanelHouse house = house(0, circulations[i]);
            Checks.read(house, "rate 1 when 1;");
            house.weeks(4);
            Checks.due("bill of " + circulations[i], house.look(0, 9), wants[i]);
        }
    }

    /** "(0 without a line)". */
    private static void nothingWithoutALine() {
        Checks.due("no line holds", billBy("rate 9 when 0; rate 9 when 1-1;"), 0);
        Checks.due("a text without lines", billBy(""), 0);
        PanelHouse house = house(0, 1000);
        house.weeks(4);
        Checks.due("no text", house.look(0, 9), 0);
    }

    /** "kind" of a PART: that of the FEATURE, 0 to 3. */
    private static void kinds() {
        for (int kind = 0; kind <= 3; kind++) {
            PanelHouse house = house(kind, 1000);
            Checks.read(house, "rate 1 when kind=" + kind + ";");
            house.weeks(4);
            Checks.due("kind " + kind, house.look(0, 9), 4);
        }
    }

    /** "thousands: circulation / 1000". */
    private static void thousands() {
        int[] circulations = {1, 999, 1000, 1999, 2000, 99999, 100000};
        int[] wants = {0, 0, 1, 1, 2, 99, 100};
        for (int i = 0; i < circulations.length; i++) {
            PanelHouse house = house(0, circulations[i]);
            Checks.read(house, "rate 999 when thousands=" + wants[i] + ";");
            house.weeks(4);
            Checks.due("thousands of " + circulations[i], house.look(0, 9), 999 * 4 * circulations[i] / 1000);
        }
    }

    /** "printed: PANELS printed in that MONTH": none, and at most two a week, also of another month's panels. */
    private static void printed() {
        PanelHouse none = house("rate 10 when printed=0; rate 1 when 1;");
        none.ill(0, 4);
        none.weeks(4);
        Checks.due("none", none.look(0, 9), 0);
        none.weeks(4);
        Checks.due("four", none.look(0, 9), 4);
        PanelHouse eight = house("rate 10 when printed=8; rate 1 when printed=0; rate 100 when printed<8;");
        eight.miss(0);
        eight.weeks(8);
        Checks.due("none of eight", eight.look(0, 9), 0);
        eight.send(0);
        eight.weeks(4);
        Checks.due("eight in four weeks", eight.look(0, 9), 80);
        Checks.due("the panels of two months", eight.look(0, 6), 9);
        Checks.due("a month without one put right", eight.right(0, 0, 100000), 0);
        Checks.due("the month in which they were printed put right", eight.right(0, 2, 2000), 80);
    }

    /** "month: its number", from 0 to 49. */
    private static void months() {
        PanelHouse house = house("rate 1 when month=0; rate 10 when month=1; rate 100 when month=49;");
        house.weeks(4);
        Checks.due("month 0", house.look(0, 9), 4);
        house.weeks(4);
        Checks.due("month 1", house.look(0, 9), 44);
        pass(house, 191);
        Checks.due("months 2 to 48", house.look(0, 9), 44);
        house.weeks(1);
        Checks.due("month 49", house.look(0, 9), 444);
    }

    /** "weeks: those of the MONTH in which it ran": 1 to 4, at its start and at its end. */
    private static void weeks() {
        for (int ahead = 0; ahead <= 3; ahead++) {
            PanelHouse house = new PanelHouse();
            house.feature(0, 0, 1, 1, 1);
            house.paper(0, 0, 1000);
            Checks.read(house, "rate 100 when weeks=" + (4 - ahead) + "; rate 1 when 1;");
            house.weeks(ahead);
            house.sign(0, 0);
            house.weeks(4 - ahead);
            Checks.due("from week " + (ahead + 1), house.look(0, 9), 100 * (4 - ahead));
        }
        for (int last = 1; last <= 4; last++) {
            PanelHouse house = house("rate 100 when weeks=" + last + " and month=1;");
            house.weeks(last);
            Checks.due("last week", house.cancel(0), 4 + last);
            house.weeks(8 - last);
            Checks.due("to week " + (4 + last), house.look(0, 9), 100 * last);
        }
    }

    /** "'and': 1 if both sides are not 0." */
    private static void andTellsOneOrNothing() {
        value("1 and 1", 1);
        value("2 and 3", 1);
        value("(0-1) and 9999", 1);
        value("0 and 1", 0);
        value("1 and 0", 0);
        value("0 and 0", 0);
        value("2 and 3 and 4", 1);
        value("2 and 0 and 4", 0);
    }

    /** "<, = tell 1 or 0." */
    private static void lessAndSame() {
        value("1<2", 1);
        value("2<2", 0);
        value("3<2", 0);
        value("0-1<0", 1);
        value("0<0-1", 0);
        value("0<9999", 1);
        value("2=2", 1);
        value("2=3", 0);
        value("0=1-1", 1);
        value("0-1=1", 0);
    }

    /** "SUM: PART { + or - PART }" goes from the left; the longest sums stay what they are. */
    private static void fromTheLeft() {
        value("9-3-2", 4);
        value("9-(3-2)", 8);
        value("9-3+2", 8);
        value("9+3-2", 10);
        String most = "9999" + Checks.times("+9999", 60);
        Checks.due("most", billBy("rate 1 when 9999<" + most + ";"), 4);
        Checks.due("least", billBy("rate 1 when 0-" + most.replace('+', '-') + "<0-9999;"), 4);
    }

    /** "5 within one another", with an "and", a test and a sum waiting at each: every one turns the next round. */
    private static void fiveWithinOneAnother() {
        String turns = Checks.times("1 and 0<1-(", 4);
        Checks.due("from 1", billBy("rate 1 when " + turns + "2-1))));"), 4);
        Checks.due("from 0", billBy("rate 1 when " + turns + "1-1))));"), 0);
        Checks.due("three from 0", billBy("rate 1 when " + Checks.times("1 and 0<1-(", 3) + "1-1)));"), 4);
    }

    /** Promise 5: "a MONTH that is not over": over is a month with its fourth week. */
    private static void monthThatIsOver() {
        for (int month = 0; month <= 49; month++) {
            int asked = month;
            PanelHouse house = house("rate 1 when 1;");
            pass(house, 4 * month + 3);
            Checks.dueThrown("month " + month + " is not over", () -> house.right(0, asked, 2000));
            house.weeks(1);
            Checks.due("month " + month + " is over", house.right(0, month, 2000), 4);
            Checks.dueThrown("the next one isn't", () -> house.right(0, asked + 1, 2000));
            Checks.due("billed in all", house.look(0, 9), 4 * month + 8);
        }
    }

    /** "each BILL of it is reckoned anew by the text of that MONTH", with another line, too. */
    private static void rightByTheTextOfThatMonth() {
        PanelHouse house = house("rate 1 when thousands<5; rate 10 when thousands<6; rate 0 when 1;");
        house.weeks(4);
        Checks.read(house, "rate 100 when 1;");
        house.weeks(4);
        Checks.due("4999", house.right(0, 0, 4999), 19 - 4);
        Checks.due("5000", house.right(0, 0, 5000), 200 - 19);
        Checks.due("6000", house.right(0, 0, 6000), -200);
        Checks.due("1000", house.right(0, 0, 1000), 4);
        Checks.due("month 1", house.right(0, 1, 6000), 2400 - 400);
        Checks.due("billed in all", house.look(0, 9), 4 + 2400);
    }

    /** "what it is more is BILLED besides, now (it may be below 0)". */
    private static void rightMayBeBelowNothing() {
        PanelHouse house = house("rate 10 when 1;");
        house.weeks(4);
        Checks.due("no more", house.right(0, 0, 1000), 0);
        Checks.due("less", house.right(0, 0, 1), -40);
        Checks.due("billed nothing in all", house.look(0, 9), 0);
        Checks.due("no income", house.income(0), 0);
        Checks.due("most", house.right(0, 0, 100000), 4000);
        Checks.due("again", house.right(0, 0, 100000), 0);
        Checks.due("billed in all", house.look(0, 9), 4000);
        Checks.due("income", house.income(0), 4000);
    }

    /** Each bill is cut by itself: 1.5 and 1.5 more are 1 and 1. */
    private static void rightOfEachBill() {
        PanelHouse house = house("rate 1 when 1;");
        house.feature(0, 0, 1, 1, 1);
        house.sign(0, 1);
        house.paper(0, 0, 1000);
        house.sign(1, 1);
        house.weeks(4);
        Checks.due("two bills of 5.5", house.right(0, 0, 1375), 2);
        Checks.due("the first", house.look(0, 9), 5);
        Checks.due("the second", house.look(1, 9), 5);
        Checks.due("the other paper's", house.look(2, 9), 4);
        Checks.due("income of both papers", house.income(1), 9);
    }

    /** "a MONTH that is over" may lie "ahead of its coming": there is no BILL to put right. */
    private static void rightAheadOfItsComing() {
        PanelHouse house = new PanelHouse();
        house.feature(0, 0, 1, 1, 1);
        Checks.read(house, "rate 1 when 1;");
        house.weeks(8);
        house.paper(0, 0, 1000);
        house.sign(0, 0);
        Checks.due("month 0", house.right(0, 0, 100000), 0);
        Checks.due("as put right", house.sells(0, 0), 100000);
        Checks.due("month 1 as at first", house.sells(0, 1), 1000);
        Checks.dueThrown("month 2 is not over", () -> house.right(0, 2, 5));
    }

    /** Promise 5: a call that throws bills nothing and changes no circulation. */
    private static void refusedRightIsWholly() {
        PanelHouse house = house("rate 1 when 1;");
        house.weeks(4);
        Checks.dueThrown("no such paper", () -> house.right(1, 0, 5000));
        Checks.dueThrown("month 1", () -> house.right(0, 1, 5000));
        Checks.dueThrown("month -1", () -> house.right(0, -1, 5000));
        Checks.dueThrown("100001", () -> house.right(0, 0, 100001));
        Checks.dueThrown("a month that wraps round", () -> house.right(0, 1 << 30, 5000));
        Checks.due("month 0", house.sells(0, 0), 1000);
        Checks.due("month 1", house.sells(0, 1), 1000);
        Checks.due("billed", house.look(0, 9), 4);
        Checks.due("income", house.income(0), 4);
    }

    /** "a FEATURE's income is all that was BILLED for it", of ended contracts, too. */
    private static void incomeIsAllThatWasBilled() {
        PanelHouse house = house("rate 1 when 1;");
        Checks.due("nothing yet", house.income(0), 0);
        Checks.dueThrown("no such feature", () -> house.income(1));
        house.feature(0, 0, 1, 1, 1);
        house.cancel(0);
        house.weeks(4);
        house.sign(0, 0);
        house.weeks(4);
        Checks.due("of both contracts", house.income(0), 8);
        Checks.due("of the other feature", house.income(1), 0);
        house.right(0, 0, 2000);
        Checks.due("with what came besides", house.income(0), 12);
        Checks.dueThrown("no third feature", () -> house.income(2));
    }

    private static void shared(int income, int[] parts, int[] want) {
        PanelHouse house = new PanelHouse();
        house.feature(0, 0, parts[0], parts[1], parts[2]);
        house.paper(0, 0, 1000);
        house.sign(0, 0);
        house.ill(0, 3);
        Checks.read(house, "rate " + income + " when 1;");
        house.weeks(4);
        Checks.due("income", house.income(0), income);
        for (int author = 0; author <= 2; author++) {
            Checks.due("author " + author + " of " + income, house.share(0, author), want[author]);
        }
        Checks.due("author -1", house.share(0, -1), NONE);
        Checks.due("author 3", house.share(0, 3), NONE);
    }

    /** "AUTHORS: income * share / all shares, cut", where nothing is left. */
    private static void sharesCut() {
        shared(6, new int[] {1, 2, 3}, new int[] {1, 2, 3});
        shared(300, new int[] {100, 100, 100}, new int[] {100, 100, 100});
        shared(999, new int[] {0, 0, 100}, new int[] {0, 0, 999});
        shared(999, new int[] {0, 1, 0}, new int[] {0, 999, 0});
        shared(999, new int[] {100, 0, 0}, new int[] {999, 0, 0});
    }

    /** "what is left goes one by one to those with the greatest rests, of equal ones the least AUTHOR". */
    private static void greatestRests() {
        shared(1, new int[] {1, 1, 1}, new int[] {1, 0, 0});
        shared(2, new int[] {1, 1, 1}, new int[] {1, 1, 0});
        shared(1, new int[] {0, 1, 1}, new int[] {0, 1, 0});
        shared(1, new int[] {1, 0, 1}, new int[] {1, 0, 0});
        shared(1, new int[] {33, 33, 34}, new int[] {0, 0, 1});
        shared(1, new int[] {33, 34, 33}, new int[] {0, 1, 0});
        shared(1, new int[] {34, 33, 33}, new int[] {1, 0, 0});
        shared(2, new int[] {33, 33, 34}, new int[] {1, 0, 1});
        shared(2, new int[] {33, 34, 34}, new int[] {0, 1, 1});
        shared(2, new int[] {34, 33, 34}, new int[] {1, 0, 1});
        shared(5, new int[] {1, 2, 3}, new int[] {1, 2, 2});
        shared(4, new int[] {1, 2, 3}, new int[] {1, 1, 2});
        shared(999, new int[] {100, 99, 1}, new int[] {499, 495, 5});
    }

    /** "(0 of an income below 0)": an income never goes below 0, for no bill does; 0 is shared as nothing. */
    private static void sharesOfNothing() {
        shared(0, new int[] {1, 1, 1}, new int[] {0, 0, 0});
        PanelHouse house = house("rate 10 when 1;");
        house.weeks(4);
        house.right(0, 0, 1);
        for (int author = 0; author <= 2; author++) {
            Checks.due("author " + author + " of nothing", house.share(0, author), 0);
        }
        Checks.due("no such author", house.share(0, 3), NONE);
        Checks.due("no such feature", house.share(1, 0), NONE);
    }

    /** The most that can be billed: income times a share goes far beyond an int. */
    private static void greatestIncome() {
        PanelHouse house = new PanelHouse();
        house.feature(0, 0, 100, 100, 99);
        for (int i = 0; i < 20; i++) {
            house.paper(0, 0, 100000);
            house.sign(i, 0);
        }
        Checks.read(house, "rate 999 when 1;");
        pass(house, 200);
        long income = 20L * 200 * 99900;
        Checks.due("income", house.income(0), (int) income);
        Checks.due("author 0", house.share(0, 0), (int) (income * 100 / 299) + 1);
        Checks.due("author 1", house.share(0, 1), (int) (income * 100 / 299) + 1);
        Checks.due("author 2", house.share(0, 2), (int) (income * 99 / 299));
        int before = house.look(0, 9);
        Checks.due("put right to the least", house.right(0, 49, 1), 3 - 399600);
        Checks.due("of its contract", house.look(0, 9), before + 3 - 399600);
    }
}
