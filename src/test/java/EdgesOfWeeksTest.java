/** The document's second part and promises 7 to 12 and 16: what a week brings, at the edges of its sentences. */
public final class EdgesOfWeeksTest {
    private static final int NONE = PanelHouse.NONE;

    public static void main(String[] args) {
        panelsFromOne();
        unlessItIsStopped();
        unlessItsAuthorIsIll();
        illInPlaceOfWhatWasTold();
        illBeyondTheLastWeek();
        contractsThatRun();
        unlessAMissWasTold();
        missForThisWeekAlone();
        missOfOneContract();
        missInAWeekWithoutPanel();
        runBeginsWithTheFirstNewInItsWeeks();
        inOrder();
        oneMoreOfThoseAheadOfThisWeek();
        twoAtMost();
        oneMoreOnlyBehindTheNext();
        sentIsThereFromTheNextWeek();
        gapAndMissing();
        nextAheadOfAny();
        leastMissingFirst();
        weeksOfACall();
        weeksUpToTwoHundred();
        cancelledOnce();
        Checks.end();
    }

    private static PanelHouse house() {
        PanelHouse house = new PanelHouse();
        house.feature(0, 0, 1, 1, 1);
        house.paper(0, 0, 1000);
        house.sign(0, 0);
        return house;
    }

    private static void run(PanelHouse house, String when, int printed, int next, int gap, int missing) {
        Checks.due(when + ": printed", house.look(0, 5), printed);
        Checks.due(when + ": next", house.look(0, 6), next);
        Checks.due(when + ": gap", house.look(0, 7), gap);
        Checks.due(when + ": missing", house.look(0, 8), missing);
    }

    private static void pass(PanelHouse house, int weeks) {
        for (int left = weeks; left > 0; left -= 30) {
            house.weeks(Math.min(left, 30));
        }
    }

    /** "each FEATURE ... has a new PANEL, numbered from 1"; promise 16: "(0 without)". */
    private static void panelsFromOne() {
        PanelHouse house = house();
        Checks.due("without", house.panel(0), 0);
        house.weeks(1);
        Checks.due("the first", house.panel(0), 1);
        house.feature(0, 0, 1, 1, 1);
        Checks.due("a late one, without", house.panel(1), 0);
        house.weeks(1);
        Checks.due("a late one's first", house.panel(1), 1);
        Checks.due("the elder's second", house.panel(0), 2);
        pass(house, 198);
        Checks.due("the 200th", house.panel(0), 200);
        Checks.due("one less", house.panel(1), 199);
    }

    /** "unless it is stopped"; "STOPPED ... is a FEATURE from the next WEEK on, until it goes on." */
    private static void unlessItIsStopped() {
        PanelHouse house = house();
        house.weeks(1);
        Checks.due("stopped", house.stop(0, true), true);
        Checks.due("this week's panel stays", house.panel(0), 1);
        house.weeks(1);
        Checks.due("none in the next week", house.panel(0), 1);
        house.weeks(30);
        Checks.due("none in any", house.panel(0), 1);
        Checks.due("on", house.stop(0, false), true);
        Checks.due("none at once", house.panel(0), 1);
        house.weeks(1);
        Checks.due("one in the next week", house.panel(0), 2);
        Checks.due("a late feature goes on", house.feature(0, 0, 1, 1, 1), 1);
        Checks.due("so it is", house.stop(1, false), false);
        Checks.due("it can be stopped", house.stop(1, true), true);
        house.weeks(1);
        Checks.due("stopped from its first week", house.panel(1), 0);
        Checks.due("the other isn't", house.panel(0), 3);
    }

    /** "or its author is ill in that WEEK (told by how many WEEKS from the next one on)"; promise 8: "(1 to 50)". */
    private static void unlessItsAuthorIsIll() {
        int[] lasts = {1, 2, 49, 50};
        for (int n : lasts) {
            PanelHouse house = house();
            house.weeks(3);
            Checks.due("ill for " + n, house.ill(0, n), true);
            Checks.due("this week's stays", house.panel(0), 3);
            pass(house, n);
            Checks.due("ill in the " + n + "th week", house.panel(0), 3);
            house.weeks(1);
            Checks.due("well in the next", house.panel(0), 4);
        }
        PanelHouse house = house();
        Checks.due("ill for 0", house.ill(0, 0), false);
        Checks.due("ill for 51", house.ill(0, 51), false);
        house.weeks(1);
        Checks.due("refused, so well", house.panel(0), 1);
    }

    /** Promise 8: "in place of what was told", be it less or more, and also when it is over. */
    private static void illInPlaceOfWhatWasTold() {
        PanelHouse less = house();
        less.ill(0, 50);
        Checks.due("less", less.ill(0, 1), true);
        less.weeks(1);
        Checks.due("ill", less.panel(0), 0);
        less.weeks(1);
        Checks.due("well", less.panel(0), 1);
        PanelHouse more = house();
        more.ill(0, 2);
        more.weeks(1);
        Checks.due("more", more.ill(0, 3), true);
        more.weeks(3);
        Checks.due("ill in week 4", more.panel(0), 0);
        more.weeks(1);
        Checks.due("well in week 5", more.panel(0), 1);
        Checks.due("again", more.ill(0, 1), true);
        Checks.due("the same again", more.ill(0, 1), true);
        more.weeks(2);
        Checks.due("well in week 7", more.panel(0), 2);
        Checks.due("a refused n", more.ill(0, 1), true);
        Checks.due("is not in its place", more.ill(0, 51), false);
        more.weeks(1);
        Checks.due("ill in week 8", more.panel(0), 2);
    }

    /** Promise 8: "n WEEKS (1 to 50) from the next one on", though "200 at most" are left. */
    private static void illBeyondTheLastWeek() {
        PanelHouse house = house();
        pass(house, 199);
        Checks.due("ill beyond 200", house.ill(0, 50), true);
        Checks.due("week 200", house.weeks(1), 200);
        Checks.due("without a panel", house.panel(0), 199);
        Checks.due("behind it, too", house.ill(0, 50), true);
    }

    /** "Each CONTRACT that runs": not the week ahead of its first, its first, its last, not the one behind it. */
    private static void contractsThatRun() {
        PanelHouse house = new PanelHouse();
        house.feature(0, 0, 1, 1, 1);
        house.paper(0, 0, 1000);
        house.weeks(1);
        house.sign(0, 0);
        run(house, "ahead of its first", 0, NONE, 0, 0);
        house.weeks(1);
        run(house, "its first", 1, 3, 0, 0);
        house.cancel(0);
        house.weeks(4);
        run(house, "its last", 5, 7, 0, 0);
        house.weeks(1);
        run(house, "behind its last", 5, 7, 0, 0);
    }

    /** "the PAPER has it, unless a miss was told for this WEEK"; promise 10: "false: ... it is told". */
    private static void unlessAMissWasTold() {
        PanelHouse house = house();
        Checks.due("told", house.miss(0), true);
        Checks.due("told twice", house.miss(0), false);
        run(house, "ahead of the week", 0, NONE, 0, 0);
        house.weeks(1);
        run(house, "the week", 0, 1, 1, 1);
    }

    /** "unless a miss was told for this WEEK": the next WEEK's can be told again. */
    private static void missForThisWeekAlone() {
        PanelHouse house = house();
        house.miss(0);
        house.weeks(2);
        run(house, "the next week's is there", 0, 1, 2, 1);
        Checks.due("another week's can be told", house.miss(0), true);
        house.weeks(0);
        Checks.due("no week, so it is told", house.miss(0), false);
        house.weeks(2);
        run(house, "1 and 3 are missing", 0, 1, 4, 2);
    }

    /** Promise 10: "A miss is told for a CONTRACT", not for its FEATURE. */
    private static void missOfOneContract() {
        PanelHouse house = house();
        house.paper(0, 0, 1000);
        house.sign(1, 0);
        house.miss(0);
        Checks.due("the other can be told, too", house.miss(1), true);
        house.weeks(1);
        house.miss(1);
        house.weeks(1);
        Checks.due("missing of the first", house.look(0, 8), 1);
        Checks.due("missing of the second", house.look(1, 8), 2);
    }

    /** "if its FEATURE has a new PANEL": without one, or without a running CONTRACT, a miss is of no effect. */
    private static void missInAWeekWithoutPanel() {
        PanelHouse house = house();
        house.stop(0, true);
        house.miss(0);
        house.weeks(1);
        run(house, "nothing to miss", 0, NONE, 0, 0);
        house.stop(0, false);
        house.weeks(1);
        run(house, "the miss is over", 1, 2, 0, 0);
        house.cancel(0);
        house.weeks(4);
        Checks.due("told behind its end", house.miss(0), true);
        house.weeks(1);
        run(house, "it doesn't run", 5, 6, 0, 0);
    }

    /** "Its run begins with the first PANEL new in its WEEKS", however late that is, and be it missed. */
    private static void runBeginsWithTheFirstNewInItsWeeks() {
        PanelHouse late = new PanelHouse();
        late.feature(0, 0, 1, 1, 1);
        late.paper(0, 0, 1000);
        late.weeks(9);
        late.sign(0, 0);
        late.ill(0, 3);
        late.weeks(3);
        run(late, "no panel yet", 0, NONE, 0, 0);
        late.miss(0);
        late.weeks(1);
        run(late, "begun with one that was missed", 0, 10, 1, 1);
        late.weeks(1);
        run(late, "goes on in order", 0, 10, 2, 1);
        PanelHouse never = house();
        never.stop(0, true);
        never.cancel(0);
        never.weeks(4);
        never.stop(0, false);
        never.weeks(4);
        run(never, "no panel in its weeks", 0, NONE, 0, 0);
        Checks.due("nothing to send", never.send(0), NONE);
    }

    /** "goes on in order: it PRINTS the next PANEL of its run, if it has it": a hole holds up all behind it. */
    private static void inOrder() {
        PanelHouse house = house();
        house.weeks(2);
        house.miss(0);
        house.weeks(10);
        run(house, "3 holds up the rest", 2, 3, 10, 1);
        house.send(0);
        house.weeks(1);
        run(house, "3 and 4", 4, 5, 9, 0);
    }

    /** "one more of those that were new ahead of this WEEK": last week's is one, this week's is none. */
    private static void oneMoreOfThoseAheadOfThisWeek() {
        PanelHouse house = house();
        house.miss(0);
        house.weeks(1);
        house.send(0);
        house.weeks(1);
        run(house, "1, and 2 is this week's", 1, 2, 1, 0);
        house.weeks(1);
        run(house, "2, and 3 is this week's", 2, 3, 1, 0);
        PanelHouse two = house();
        two.miss(0);
        two.weeks(2);
        two.send(0);
        two.weeks(1);
        run(two, "1, and 2 is last week's", 2, 3, 1, 0);
        PanelHouse without = house();
        without.miss(0);
        without.weeks(2);
        without.send(0);
        without.ill(0, 1);
        without.weeks(1);
        run(without, "1 and 2 without one of this week's", 2, 3, 0, 0);
    }

    /** "it PRINTS the next PANEL of its run ...; and then ... one more", however many wait. */
    private static void twoAtMost() {
        PanelHouse house = house();
        house.miss(0);
        house.weeks(6);
        house.send(0);
        for (int week = 1; week <= 5; week++) {
            house.weeks(1);
            run(house, "two a week", 2 * week, 2 * week + 1, 6 - week, 0);
        }
        house.weeks(1);
        run(house, "one, being a week behind", 11, 12, 1, 0);
    }

    /** "and then, if it has that, too": no second one where the next is a hole, or the second is. */
    private static void oneMoreOnlyBehindTheNext() {
        PanelHouse house = house();
        house.miss(0);
        house.weeks(1);
        house.miss(0);
        house.weeks(2);
        house.send(0);
        house.weeks(1);
        run(house, "1, but 2 is a hole", 1, 2, 3, 1);
        house.weeks(1);
        run(house, "2 is a hole", 1, 2, 4, 1);
        house.send(0);
        house.weeks(1);
        run(house, "2 and 3", 3, 4, 3, 0);
    }

    /** "A PANEL that was missed and sent again is there from the next WEEK on." */
    private static void sentIsThereFromTheNextWeek() {
        PanelHouse house = house();
        house.miss(0);
        house.weeks(1);
        Checks.due("sent", house.send(0), 1);
        run(house, "not printed yet", 0, 1, 1, 0);
        house.weeks(0);
        run(house, "nor in no week", 0, 1, 1, 0);
        house.weeks(1);
        run(house, "printed in the next", 1, 2, 1, 0);
        PanelHouse ended = house();
        ended.cancel(0);
        ended.weeks(3);
        ended.miss(0);
        ended.weeks(1);
        Checks.due("sent behind its last week", ended.send(0), 4);
        ended.weeks(1);
        run(ended, "there is no week of it left", 3, 4, 1, 0);
        PanelHouse last = house();
        last.cancel(0);
        last.weeks(2);
        last.miss(0);
        last.weeks(1);
        Checks.due("sent ahead of its last week", last.send(0), 3);
        last.weeks(1);
        run(last, "printed in its last week", 3, 4, 1, 0);
    }

    /** "GAP ...: the PANELS of its run (new in its WEEKS up to NOW) that it hasn't printed. MISSING: ...". */
    private static void gapAndMissing() {
        PanelHouse house = house();
        run(house, "empty", 0, NONE, 0, 0);
        for (int week = 1; week <= 3; week++) {
            house.miss(0);
            house.weeks(1);
            run(house, "all missed", 0, 1, week, week);
        }
        house.weeks(1);
        run(house, "one is there", 0, 1, 4, 3);
        for (int panel = 1; panel <= 3; panel++) {
            Checks.due("sent", house.send(0), panel);
            run(house, "sent, in the gap still", 0, 1, 4, 3 - panel);
        }
        Checks.due("none left", house.send(0), NONE);
        house.cancel(0);
        house.weeks(4);
        run(house, "its end: 8 was new in its last week", 7, 8, 1, 0);
        house.weeks(4);
        run(house, "behind its end", 7, 8, 1, 0);
        PanelHouse all = house();
        for (int week = 1; week <= 200; week++) {
            all.miss(0);
            all.weeks(1);
        }
        run(all, "200 missed", 0, 1, 200, 200);
        Checks.due("the first of 200", all.send(0), 1);
    }

    /** Promise 15: "6: the next PANEL of its run (NONE ahead of any)". */
    private static void nextAheadOfAny() {
        PanelHouse house = house();
        Checks.due("ahead of any", house.look(0, 6), NONE);
        house.ill(0, 1);
        house.weeks(1);
        Checks.due("still", house.look(0, 6), NONE);
        house.weeks(1);
        Checks.due("behind the first", house.look(0, 6), 2);
        house.stop(0, true);
        house.weeks(5);
        Checks.due("the next isn't new yet", house.look(0, 6), 2);
    }

    /** Promise 11: "The least MISSING PANEL", printed ones and those that are there passed over. */
    private static void leastMissingFirst() {
        PanelHouse house = house();
        house.weeks(2);
        house.miss(0);
        house.weeks(2);
        house.miss(0);
        house.weeks(1);
        Checks.due("3", house.send(0), 3);
        Checks.due("5", house.send(0), 5);
        Checks.due("none", house.send(0), NONE);
        house.miss(0);
        Checks.due("told, but not missed yet", house.send(0), NONE);
        house.weeks(1);
        Checks.due("6", house.send(0), 6);
    }

    /** Promise 12: "n WEEKS (0 to 30): NOW; NONE for another n". */
    private static void weeksOfACall() {
        PanelHouse house = house();
        Checks.due("-1", house.weeks(-1), NONE);
        Checks.due("0", house.weeks(0), 0);
        Checks.due("31", house.weeks(31), NONE);
        Checks.due("30", house.weeks(30), 30);
        Checks.due("0 again", house.weeks(0), 30);
        Checks.due("1", house.weeks(1), 31);
        Checks.due("wrapping round", house.weeks(Integer.MAX_VALUE), NONE);
        Checks.due("wrapping round below", house.weeks(Integer.MIN_VALUE), NONE);
        Checks.due("panels", house.panel(0), 31);
    }

    /** Promise 12: "NONE for ... beyond 200". */
    private static void weeksUpToTwoHundred() {
        for (int left = 0; left <= 30; left++) {
            PanelHouse house = house();
            pass(house, 200 - left);
            Checks.due("one too many with " + left + " left", house.weeks(left + 1), NONE);
            Checks.due("panels with " + left + " left", house.panel(0), 200 - left);
            Checks.due("the rest", house.weeks(left), 200);
            Checks.due("panels at 200", house.panel(0), 200);
        }
    }

    /** Promise 7: "the last WEEK in which it runs; NONE: ..., it was", also when it has ended and at week 200. */
    private static void cancelledOnce() {
        PanelHouse house = house();
        Checks.due("at 0", house.cancel(0), 4);
        Checks.due("it was", house.cancel(0), NONE);
        Checks.due("its last week stays", house.look(0, 3), 4);
        house.weeks(4);
        Checks.due("it ended", house.cancel(0), NONE);
        house.sign(0, 0);
        Checks.due("the last week of the new one", house.look(1, 3), NONE);
        pass(house, 196);
        Checks.due("at 200", house.cancel(1), 204);
        Checks.due("it runs in week 201", house.look(1, 4), 1);
    }
}
