/** Promise 20: count. */
public final class CountsTest {
    public static void main(String[] args) {
        PanelHouse house = new PanelHouse();
        house.feature(0, 0, 1, 1, 1);
        house.feature(0, 0, 1, 1, 1);
        for (int i = 0; i < 5; i++) {
            house.paper(0, 0, 1);
        }
        house.sign(0, 0);
        house.sign(1, 0);
        house.sign(2, 0);
        house.weeks(6);
        house.cancel(1);
        counts(house, "cancelled", 2, 5, 3, 6, 3, 0, 0, 0);
        house.weeks(3);
        counts(house, "its last week comes", 2, 5, 3, 9, 3, 0, 0, 0);
        house.weeks(1);
        counts(house, "ended", 2, 5, 3, 10, 2, 0, 0, 0);
        Checks.read(house, "rate 1 when 1; rate 2 when 2; rate 3 when 3; rate 4 when 4;");
        Checks.feed(house, "seven s");
        counts(house, "a text", 2, 5, 3, 10, 2, 4, 7, 1);
        Checks.due("-1", house.count(-1), PanelHouse.NONE);
        Checks.due("8", house.count(8), PanelHouse.NONE);
        Checks.due("most", house.count(Integer.MAX_VALUE), PanelHouse.NONE);
        Checks.due("least", house.count(Integer.MIN_VALUE), PanelHouse.NONE);
        Checks.end();
    }

    private static void counts(PanelHouse house, String when, int... want) {
        for (int what = 0; what < want.length; what++) {
            Checks.due(when + ": count " + what, house.count(what), want[what]);
        }
    }
}
