import java.util.function.Supplier;

/**
 * Every call that the document refuses, promise by promise: it answers as the promise says, and nothing that can be
 * seen is other than without it, neither at once nor eight weeks later.
 */
public final class RefusedCallsTest {
    private static final int NONE = PanelHouse.NONE;

    interface On {
        int answer(PanelHouse house);
    }

    public static void main(String[] args) {
        feature();
        paper();
        circulation();
        right();
        sign();
        cancel();
        ill();
        stop();
        miss();
        send();
        weeks();
        look();
        featureReads();
        sells();
        count();
        fullHouse();
        twentyTexts();
        theLastWeek();
        Checks.end();
    }

    /** Numbers beyond least .. most: the nearest, the farthest, and such as a narrower number would take for good ones. */
    private static int[] beyond(int least, int most) {
        return new int[] {least - 1, most + 1, Integer.MIN_VALUE, Integer.MAX_VALUE, Integer.MIN_VALUE + most,
            least - 256 * 512, least - 65536 * 2, most + 65536 * 2};
    }

    private static int number(boolean yes) {
        return yes ? 1 : 0;
    }

    private static void refused(String call, On made, int want) {
        refusedAt(Seen::busy, call, made, Integer.toString(want));
    }

    private static void thrown(String call, On made) {
        refusedAt(Seen::busy, call, made, Checks.THROWN);
    }

    private static void refusedAt(Supplier<PanelHouse> makes, String call, On made, String want) {
        PanelHouse house = makes.get();
        PanelHouse twin = makes.get();
        Checks.tell(call, Checks.outcome(() -> made.answer(house)), want);
        Checks.tell("at once behind " + call, Seen.of(house), Seen.of(twin));
        house.weeks(8);
        twin.weeks(8);
        Checks.tell("weeks behind " + call, Seen.of(house), Seen.of(twin));
    }

    /** Promise 2: "NONE: other numbers". */
    private static void feature() {
        for (int n : beyond(0, 3)) {
            refused("feature of kind " + n, house -> house.feature(n, 0, 1, 1, 1), NONE);
        }
        for (int n : beyond(0, 500)) {
            refused("feature of miles " + n, house -> house.feature(0, n, 1, 1, 1), NONE);
        }
        for (int n : beyond(0, 100)) {
            refused("feature of share a " + n, house -> house.feature(0, 0, n, 1, 1), NONE);
            refused("feature of share b " + n, house -> house.feature(0, 0, 1, n, 1), NONE);
            refused("feature of share c " + n, house -> house.feature(0, 0, 1, 1, n), NONE);
        }
        refused("feature without a share", house -> house.feature(0, 0, 0, 0, 0), NONE);
        refused("feature of shares that come to 0", house -> house.feature(0, 0, 1, -1, 0), NONE);
        refused("feature of shares that wrap to 1", house -> house.feature(0, 0, 1 << 31, 1 << 31, 1), NONE);
    }

    /** Promise 3: "NONE: other numbers". */
    private static void paper() {
        for (int n : beyond(0, 999)) {
            refused("paper at x " + n, house -> house.paper(n, 0, 1), NONE);
            refused("paper at y " + n, house -> house.paper(0, n, 1), NONE);
        }
        for (int n : beyond(1, 100000)) {
            refused("paper of circulation " + n, house -> house.paper(0, 0, n), NONE);
        }
    }

    /** Promise 4: "false: none such, another number". */
    private static void circulation() {
        for (int n : beyond(0, 2)) {
            refused("circulation of paper " + n, house -> number(house.circulation(n, 5)), 0);
        }
        for (int n : beyond(1, 100000)) {
            refused("circulation of " + n, house -> number(house.circulation(0, n)), 0);
        }
    }

    /** Promise 5: "no such PAPER, a MONTH that is not over, another number". Month 0 alone is over. */
    private static void right() {
        for (int n : beyond(0, 2)) {
            thrown("right of paper " + n, house -> house.right(n, 0, 5));
        }
        for (int n : beyond(0, 0)) {
            thrown("right of month " + n, house -> house.right(0, n, 5));
        }
        for (int n : beyond(1, 100000)) {
            thrown("right to " + n, house -> house.right(0, 0, n));
        }
    }

    /** Promise 6: "else why it is refused", the first reason alone. */
    private static void sign() {
        for (int n : beyond(0, 2)) {
            refused("sign of paper " + n, house -> house.sign(n, 0), 1);
            refused("sign of feature " + n, house -> house.sign(0, n), 1);
            refused("sign of paper and feature " + n, house -> house.sign(n, n), 1);
        }
        refused("sign of one that it has", house -> house.sign(0, 0), 2);
        refused("sign of one that is cancelled and runs", house -> house.sign(0, 1), 2);
        refused("sign of a neighbour", house -> house.sign(2, 0), 3);
        refused("sign of a stopped one", house -> house.sign(2, 2), 4);
    }

    /** Promise 7: "NONE: none such, it was". */
    private static void cancel() {
        for (int n : beyond(0, 2)) {
            refused("cancel of contract " + n, house -> house.cancel(n), NONE);
        }
        refused("cancel of a cancelled one", house -> house.cancel(2), NONE);
    }

    /** Promise 8: "false: none such, another n". */
    private static void ill() {
        for (int n : beyond(0, 2)) {
            refused("ill of feature " + n, house -> number(house.ill(n, 5)), 0);
        }
        for (int n : beyond(1, 50)) {
            refused("ill for " + n, house -> number(house.ill(0, n)), 0);
            refused("ill for " + n + " in place of 1", house -> number(house.ill(1, n)), 0);
        }
    }

    /** Promise 9: "false: none such, it is so". */
    private static void stop() {
        for (int n : beyond(0, 2)) {
            refused("stop of feature " + n, house -> number(house.stop(n, true)), 0);
            refused("going on of feature " + n, house -> number(house.stop(n, false)), 0);
        }
        refused("stop of a stopped one", house -> number(house.stop(2, true)), 0);
        refused("going on of one that goes on", house -> number(house.stop(0, false)), 0);
        refused("going on of one that is ill", house -> number(house.stop(1, false)), 0);
    }

    /** Promise 10: "false: none such, it is told". */
    private static void miss() {
        for (int n : beyond(0, 2)) {
            refused("miss of contract " + n, house -> number(house.miss(n)), 0);
        }
        refused("miss that is told", house -> number(house.miss(1)), 0);
    }

    /** Promise 11: "NONE: none such, none MISSING". */
    private static void send() {
        for (int n : beyond(0, 2)) {
            refused("send of contract " + n, house -> house.send(n), NONE);
        }
        refused("send with none missing", house -> house.send(2), NONE);
        refused("send ahead of the week of the miss", house -> house.send(1), NONE);
    }

    /** Promise 12: "NONE for another n". */
    private static void weeks() {
        for (int n : beyond(0, 30)) {
            refused("weeks " + n, house -> house.weeks(n), NONE);
        }
        refused("no weeks", house -> house.weeks(0), 6);
    }

    /** Promise 15: "NoSuchElementException: none such". */
    private static void look() {
        for (int n : beyond(0, 2)) {
            for (int what = -1; what <= 10; what++) {
                int asked = what;
                thrown("look " + what + " at contract " + n, house -> house.look(n, asked));
            }
        }
        for (int n : beyond(0, 9)) {
            thrown("look " + n, house -> house.look(0, n));
        }
    }

    /** Promises 16, 17 and 18: NONE, or NoSuchElementException, for "none such". */
    private static void featureReads() {
        for (int n : beyond(0, 2)) {
            refused("panel of feature " + n, house -> house.panel(n), NONE);
            thrown("income of feature " + n, house -> house.income(n));
            refused("share of feature " + n, house -> house.share(n, 0), NONE);
            refused("share of author " + n, house -> house.share(0, n), NONE);
        }
    }

    /** Promise 19: "NONE: none such, a MONTH behind it". Month 1 is the running one. */
    private static void sells() {
        for (int n : beyond(0, 2)) {
            refused("sells of paper " + n, house -> house.sells(n, 0), NONE);
        }
        for (int n : beyond(0, 1)) {
            refused("sells of month " + n, house -> house.sells(0, n), NONE);
        }
    }

    /** Promise 20: "NONE for another what". */
    private static void count() {
        for (int n : beyond(0, 7)) {
            refused("count " + n, house -> house.count(n), NONE);
        }
    }

    /** 10 features, 20 papers, and 60 contracts of which the first 20 have ended: the house stays within its calls. */
    private static PanelHouse full() {
        PanelHouse house = new PanelHouse();
        for (int i = 0; i < 10; i++) {
            house.feature(0, 0, 1, 1, 1);
        }
        for (int i = 0; i < 20; i++) {
            house.paper(0, 0, 1000);
        }
        for (int i = 0; i < 60; i++) {
            house.sign(i % 20, i / 20);
        }
        for (int i = 0; i < 20; i++) {
            house.cancel(i);
        }
        house.weeks(4);
        return house;
    }

    private static void fullCall(String call, On made, int want) {
        PanelHouse house = full();
        Checks.due(call, made.answer(house), want);
        Checks.due("features behind " + call, house.count(0), 10);
        Checks.due("papers behind " + call, house.count(1), 20);
        Checks.due("contracts behind " + call, house.count(2), 60);
        Checks.due("running behind " + call, house.count(4), 40);
        Checks.due("the last contract behind " + call, house.look(59, 5), 4);
    }

    /** Promises 2, 3 and 6: "10 are there", "20 are there", "60 are there", with numbers that would do else. */
    private static void fullHouse() {
        fullCall("an 11th feature", house -> house.feature(0, 0, 1, 1, 1), NONE);
        fullCall("a 21st paper", house -> house.paper(0, 0, 1), NONE);
        fullCall("a 61st contract", house -> house.sign(0, 3), 1);
        fullCall("a 61st contract for one that ended", house -> house.sign(0, 0), 1);
        fullCall("a 61st contract that it has", house -> house.sign(0, 1), 1);
    }

    private static PanelHouse read20() {
        PanelHouse house = Seen.busy();
        house.text();
        for (int i = 1; i < 20; i++) {
            Checks.read(house, "rate 3 when 1;");
        }
        return house;
    }

    /** Promise 14: "-1: 20 were taken (the TAPE is empty then, too)"; a call with an empty tape changes nothing at all. */
    private static void twentyTexts() {
        Checks.due("twenty", read20().count(7), 20);
        refusedAt(RefusedCallsTest::read20, "a 21st text", PanelHouse::text, "-1");
        refusedAt(RefusedCallsTest::read20, "a 21st text, right", house -> Checks.read(house, "rate 9 when 1;"), "-1");
        refusedAt(RefusedCallsTest::read20, "a 21st text, faulty", house -> Checks.read(house, "rate"), "-1");
    }

    private static PanelHouse old() {
        PanelHouse house = Seen.busy();
        for (int i = 0; i < 6; i++) {
            house.weeks(30);
        }
        house.weeks(13);
        return house;
    }

    /** Promise 12: "NONE for another n, beyond 200": none of the weeks goes by, not even those up to 200. */
    private static void theLastWeek() {
        for (int n = 2; n <= 31; n++) {
            PanelHouse house = old();
            Checks.due("weeks " + n + " at 199", house.weeks(n), NONE);
            Checks.due("still 199", house.count(3), 199);
            Checks.due("panels", house.panel(0), 199);
            Checks.due("no bill", house.look(1, 9), old().look(1, 9));
            Checks.due("the 200th", house.weeks(1), 200);
            Checks.due("weeks " + n + " at 200", house.weeks(n - 1), NONE);
            Checks.due("still 200", house.count(3), 200);
        }
    }
}
