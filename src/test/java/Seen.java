/** All that one can see of a house without changing it, as one text, and a small house to be looked at. */
final class Seen {
    private Seen() {
    }

    static String of(PanelHouse house) {
        StringBuilder seen = new StringBuilder();
        for (int what = 0; what <= 7; what++) {
            seen.append(" count ").append(house.count(what));
        }
        for (int feature = 0; feature < house.count(0); feature++) {
            seen.append("\nfeature ").append(house.panel(feature)).append(' ').append(house.income(feature));
            for (int author = 0; author < 3; author++) {
                seen.append(' ').append(house.share(feature, author));
            }
        }
        for (int paper = 0; paper < house.count(1); paper++) {
            seen.append("\npaper");
            for (int month = 0; month <= house.count(3) / 4; month++) {
                seen.append(' ').append(house.sells(paper, month));
            }
        }
        for (int contract = 0; contract < house.count(2); contract++) {
            seen.append("\ncontract");
            for (int what = 0; what <= 9; what++) {
                seen.append(' ').append(house.look(contract, what));
            }
        }
        return seen.toString();
    }

    /**
     * NOW is 6. Feature 0 is whole, 1 is ill in the next week, 2 is stopped. Contracts 0 and 1 run, 0 misses panel 4
     * and 1 will miss the next week's; contract 2 is cancelled and runs up to week 8; the tape has three signs.
     */
    static PanelHouse busy() {
        PanelHouse house = new PanelHouse();
        house.feature(1, 10, 50, 30, 20);
        house.feature(2, 0, 1, 1, 1);
        house.feature(3, 0, 1, 0, 0);
        house.paper(0, 0, 7900);
        house.paper(100, 0, 2500);
        house.paper(5, 0, 1000);
        house.sign(0, 0);
        house.sign(1, 0);
        house.sign(0, 1);
        house.stop(2, true);
        Checks.read(house, "rate 10 when thousands<5; rate 7 when 1;");
        house.weeks(3);
        house.miss(0);
        house.weeks(1);
        house.cancel(2);
        house.weeks(2);
        house.miss(1);
        house.ill(1, 1);
        Checks.feed(house, "abc");
        return house;
    }
}
