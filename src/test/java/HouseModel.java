import java.util.ArrayList;
import java.util.HashMap;
import java.util.HashSet;
import java.util.List;
import java.util.Map;
import java.util.NoSuchElementException;
import java.util.Set;
import java.util.TreeMap;

/**
 * The document a second time, written to be compared with and not to be quick: it keeps what was told and
 * reckons every answer anew from that.
 */
final class HouseModel {
    private static final class Strip {
        int kind;
        int miles;
        int[] shares;
        boolean stopped;
        Set<Integer> illWeeks = new HashSet<>();
        List<Integer> weekOfPanel = new ArrayList<>();
    }

    private static final class Journal {
        int x;
        int y;
        int atFirst;
        List<int[]> told = new ArrayList<>();
        Map<Integer, Integer> rights = new HashMap<>();
    }

    private static final class Deal {
        int paper;
        int feature;
        int first;
        int last = Integer.MAX_VALUE;
        Set<Integer> missWeeks = new HashSet<>();
        Map<Integer, Integer> sentAfter = new HashMap<>();
        Map<Integer, Integer> bills = new TreeMap<>();
    }

    private final List<Strip> strips = new ArrayList<>();
    private final List<Journal> journals = new ArrayList<>();
    private final List<Deal> deals = new ArrayList<>();
    private final List<String> textOfMonth = new ArrayList<>();
    private String tape = "";
    private String text = "";
    private int texts = 0;
    private int now = 0;

    int feature(int kind, int miles, int a, int b, int c) {
        boolean shares = a >= 0 && a <= 100 && b >= 0 && b <= 100 && c >= 0 && c <= 100 && (a > 0 || b > 0 || c > 0);
        if (kind < 0 || kind > 3 || miles < 0 || miles > 500 || !shares || strips.size() == 10) {
            return -1;
        }
        Strip strip = new Strip();
        strip.kind = kind;
        strip.miles = miles;
        strip.shares = new int[] {a, b, c};
        strips.add(strip);
        return strips.size() - 1;
    }

    int paper(int x, int y, int n) {
        if (x < 0 || x > 999 || y < 0 || y > 999 || n < 1 || n > 100000 || journals.size() == 20) {
            return -1;
        }
        Journal journal = new Journal();
        journal.x = x;
        journal.y = y;
        journal.atFirst = n;
        journals.add(journal);
        return journals.size() - 1;
    }

    boolean circulation(int paper, int n) {
        if (!has(journals, paper) || n < 1 || n > 100000) {
            return false;
        }
        journals.get(paper).told.add(new int[] {now / 4, n});
        return true;
    }

    int right(int paper, int month, int n) {
        if (!has(journals, paper) || month < 0 || (month + 1L) * 4 > now || n < 1 || n > 100000) {
            throw new NoSuchElementException();
        }
        journals.get(paper).rights.put(month, n);
        int besides = 0;
        for (Deal deal : deals) {
            if (deal.paper == paper && deal.bills.containsKey(month)) {
                int before = deal.bills.get(month);
                deal.bills.put(month, bill(deal, month));
                besides += deal.bills.get(month) - before;
            }
        }
        return besides;
    }

    int sign(int paper, int feature) {
        if (!has(journals, paper) || !has(strips, feature) || deals.size() == 60) {
            return 1;
        }
        int why = 9;
        for (Deal deal : deals) {
            if (deal.feature == feature && runs(deal, now + 1)) {
                if (deal.paper == paper) {
                    why = Math.min(why, 2);
                } else if (way(paper, deal.paper) < strips.get(feature).miles) {
                    why = Math.min(why, 3);
                }
            }
        }
        if (strips.get(feature).stopped) {
            why = Math.min(why, 4);
        }
        if (why < 9) {
            return why;
        }
        Deal deal = new Deal();
        deal.paper = paper;
        deal.feature = feature;
        deal.first = now + 1;
        deals.add(deal);
        return 99 + deals.size();
    }

    int cancel(int contract) {
        if (!has(deals, contract) || deals.get(contract).last != Integer.MAX_VALUE) {
            return -1;
        }
        deals.get(contract).last = now + 4;
        return now + 4;
    }

    boolean ill(int feature, int n) {
        if (!has(strips, feature) || n < 1 || n > 50) {
            return false;
        }
        Set<Integer> weeks = strips.get(feature).illWeeks;
        weeks.clear();
        for (int i = 1; i <= n; i++) {
            weeks.add(now + i);
        }
        return true;
    }

    boolean stop(int feature, boolean yes) {
        if (!has(strips, feature) || strips.get(feature).stopped == yes) {
            return false;
        }
        strips.get(feature).stopped = yes;
        return true;
    }

    boolean miss(int contract) {
        return has(deals, contract) && deals.get(contract).missWeeks.add(now + 1);
    }

    int send(int contract) {
        if (!has(deals, contract) || missing(deals.get(contract)).isEmpty()) {
            return -1;
        }
        int least = missing(deals.get(contract)).get(0);
        deals.get(contract).sentAfter.put(least, now);
        return least;
    }

    int weeks(int n) {
        if (n < 0 || n > 30 || now + n > 200) {
            return -1;
        }
        for (int i = 0; i < n; i++) {
            now++;
            for (Strip strip : strips) {
                if (!strip.stopped && !strip.illWeeks.contains(now)) {
                    strip.weekOfPanel.add(now);
                }
            }
            if (now % 4 == 0) {
                endMonth();
            }
        }
        return now;
    }

    private void endMonth() {
        int month = now / 4 - 1;
        textOfMonth.add(text);
        for (Deal deal : deals) {
            if (ran(deal, month) > 0) {
                deal.bills.put(month, bill(deal, month));
            }
        }
    }

    int feed(long a, long b, long c) {
        StringBuilder more = new StringBuilder(tape);
        for (long part : new long[] {a, b, c}) {
            for (int i = 7; i >= 0; i--) {
                long sign = part >> 8 * i & 0xFF;
                if ((sign == 10 || sign > 31 && sign < 127) && more.length() < 600) {
                    more.append((char) sign);
                }
            }
        }
        tape = more.toString();
        return tape.length();
    }

    int text() {
        String read = tape;
        tape = "";
        if (texts == 20) {
            return -1;
        }
        int fault = TextModel.fault(read);
        if (fault == 0) {
            text = read;
            texts++;
        }
        return fault;
    }

    int look(int contract, int what) {
        if (!has(deals, contract) || what < 0 || what > 9) {
            throw new NoSuchElementException();
        }
        Deal deal = deals.get(contract);
        List<Integer> run = run(deal);
        List<int[]> prints = prints(deal);
        int billed = 0;
        for (int bill : deal.bills.values()) {
            billed += bill;
        }
        int[] answers = {deal.paper, deal.feature, deal.first, deal.last == Integer.MAX_VALUE ? -1 : deal.last,
            runs(deal, now + 1) ? 1 : 0, prints.size(), run.isEmpty() ? -1 : run.get(0) + prints.size(),
            run.size() - prints.size(), missing(deal).size(), billed};
        return answers[what];
    }

    int panel(int feature) {
        return has(strips, feature) ? strips.get(feature).weekOfPanel.size() : -1;
    }

    int income(int feature) {
        if (!has(strips, feature)) {
            throw new NoSuchElementException();
        }
        int income = 0;
        for (Deal deal : deals) {
            if (deal.feature == feature) {
                for (int bill : deal.bills.values()) {
                    income += bill;
                }
            }
        }
        return income;
    }

    int share(int feature, int author) {
        if (!has(strips, feature) || author < 0 || author > 2) {
            return -1;
        }
        int[] shares = strips.get(feature).shares;
        long all = shares[0] + shares[1] + shares[2];
        long income = income(feature);
        long[] has = new long[3];
        long[] rest = new long[3];
        long left = income;
        for (int i = 0; i < 3; i++) {
            has[i] = income * shares[i] / all;
            rest[i] = income * shares[i] - has[i] * all;
            left -= has[i];
        }
        for (; left > 0; left--) {
            int most = 0;
            for (int i = 1; i < 3; i++) {
                most = rest[i] > rest[most] ? i : most;
            }
            has[most]++;
            rest[most] = -1;
        }
        return (int) has[author];
    }

    int sells(int paper, int month) {
        if (!has(journals, paper) || month < 0 || month > now / 4) {
            return -1;
        }
        return soldIn(journals.get(paper), month);
    }

    int count(int what) {
        switch (what) {
            case 0: return strips.size();
            case 1: return journals.size();
            case 2: return deals.size();
            case 3: return now;
            case 4:
                int running = 0;
                for (Deal deal : deals) {
                    running += runs(deal, now + 1) ? 1 : 0;
                }
                return running;
            case 5: return text.length() - text.replace(";", "").length();
            case 6: return tape.length();
            case 7: return texts;
            default: return -1;
        }
    }

    private static boolean has(List<?> list, int number) {
        return number >= 0 && number < list.size();
    }

    private static boolean runs(Deal deal, int week) {
        return deal.first <= week && week <= deal.last;
    }

    private double way(int one, int other) {
        return Math.hypot(journals.get(one).x - journals.get(other).x, journals.get(one).y - journals.get(other).y);
    }

    private static int soldIn(Journal journal, int month) {
        if (journal.rights.containsKey(month)) {
            return journal.rights.get(month);
        }
        int sold = journal.atFirst;
        for (int[] told : journal.told) {
            sold = told[0] <= month ? told[1] : sold;
        }
        return sold;
    }

    private int ran(Deal deal, int month) {
        return Math.max(0, Math.min(deal.last, 4 * month + 4) - Math.max(deal.first, 4 * month + 1) + 1);
    }

    /** The panels of a contract's run by their numbers. */
    private List<Integer> run(Deal deal) {
        List<Integer> run = new ArrayList<>();
        List<Integer> weeks = strips.get(deal.feature).weekOfPanel;
        for (int i = 0; i < weeks.size(); i++) {
            if (runs(deal, weeks.get(i))) {
                run.add(i + 1);
            }
        }
        return run;
    }

    private int newIn(Deal deal, int panel) {
        return strips.get(deal.feature).weekOfPanel.get(panel - 1);
    }

    private boolean hasPanel(Deal deal, int panel, int week) {
        boolean came = newIn(deal, panel) <= week && !deal.missWeeks.contains(newIn(deal, panel));
        return came || deal.sentAfter.containsKey(panel) && deal.sentAfter.get(panel) < week;
    }

    /** What was printed, in order, each with its week. */
    private List<int[]> prints(Deal deal) {
        List<Integer> run = run(deal);
        List<int[]> prints = new ArrayList<>();
        for (int week = deal.first; week <= Math.min(now, deal.last); week++) {
            int at = prints.size();
            if (at < run.size() && hasPanel(deal, run.get(at), week)) {
                prints.add(new int[] {run.get(at), week});
                boolean more = at + 1 < run.size() && newIn(deal, run.get(at + 1)) < week;
                if (more && hasPanel(deal, run.get(at + 1), week)) {
                    prints.add(new int[] {run.get(at + 1), week});
                }
            }
        }
        return prints;
    }

    private List<Integer> missing(Deal deal) {
        List<Integer> missing = new ArrayList<>();
        for (int panel : run(deal)) {
            if (deal.missWeeks.contains(newIn(deal, panel)) && !deal.sentAfter.containsKey(panel)) {
                missing.add(panel);
            }
        }
        return missing;
    }

    private int bill(Deal deal, int month) {
        int printed = 0;
        for (int[] print : prints(deal)) {
            printed += (print[1] - 1) / 4 == month ? 1 : 0;
        }
        int sold = soldIn(journals.get(deal.paper), month);
        Map<String, Integer> facts = new HashMap<>();
        facts.put("kind", strips.get(deal.feature).kind);
        facts.put("thousands", sold / 1000);
        facts.put("printed", printed);
        facts.put("month", month);
        facts.put("weeks", ran(deal, month));
        return (int) ((long) TextModel.rate(textOfMonth.get(month), facts) * printed * sold / 1000);
    }
}
