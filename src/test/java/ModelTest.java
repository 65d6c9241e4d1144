import java.util.Random;

/** Long runs of drawn calls, each answer compared with that of HouseModel; the seeds are written, so runs are the same. */
public final class ModelTest {
    private static final int RUNS = 1800;
    private static final int CALLS = 512;
    private static final int[] ODD = {-1, 0, Integer.MIN_VALUE, Integer.MAX_VALUE, 20, 60, 10, 100000, 100001};
    private static final String[] FACTS = {"kind", "thousands", "printed", "month", "weeks"};
    private static final String[] STRAY = {"rate", "when", "and", "(", ")", ";", "<", "=", "+", "-", "*", "7", "12345",
        "1000", "thousandss", "X", "kind", "\n", "\u00e9"};

    private final Random random;
    private final PanelHouse house = new PanelHouse();
    private final HouseModel model = new HouseModel();
    private final int bias;
    private String call = "";
    private int calls = 0;

    private ModelTest(long seed) {
        random = new Random(seed);
        bias = random.nextInt(4);
    }

    public static void main(String[] args) {
        for (int seed = 0; seed < RUNS; seed++) {
            ModelTest run = new ModelTest(seed);
            for (int i = 0; run.calls < CALLS; i++) {
                run.step("run " + seed + " call " + i + ": ", i);
            }
        }
        Checks.end();
    }

    private int below(int n) {
        return random.nextInt(n);
    }

    /** A number of 0 .. n - 1, now and then one that is beyond it. */
    private int drawn(int n) {
        int odd = below(40);
        return odd == 0 ? ODD[below(ODD.length)] : odd == 1 ? n : below(Math.max(n, 1));
    }

    /** Behind its 512th call an object's answers are free, so none is asked for. */
    private void both(String name, Checks.Call ours, Checks.Call theirs) {
        if (calls >= CALLS) {
            return;
        }
        calls++;
        Checks.tell(call + name, Checks.outcome(ours), Checks.outcome(theirs));
    }

    private static int number(boolean yes) {
        return yes ? 1 : 0;
    }

    private void step(String name, int i) {
        call = name;
        int draw = i < 25 ? below(30) : below(100);
        if (draw < 4) {
            feature();
        } else if (draw < 12) {
            paper();
        } else if (draw < 30) {
            int p = drawn(model.count(1));
            int f = drawn(model.count(0));
            both("sign " + p + " " + f, () -> house.sign(p, f), () -> model.sign(p, f));
        } else if (draw < 48) {
            contractCall();
        } else if (draw < 56) {
            featureCall();
        } else if (draw < 62) {
            paperCall();
        } else if (draw < 72) {
            weeks();
        } else if (draw < 76) {
            text();
        } else {
            look();
        }
    }

    private void feature() {
        int kind = drawn(4);
        int miles = bias == 0 ? 0 : drawn(bias == 1 ? 20 : 501);
        int a = below(3) == 0 ? 0 : drawn(101);
        int b = below(3) == 0 ? 0 : drawn(101);
        int c = below(3) == 0 ? 0 : drawn(101);
        both("feature", () -> house.feature(kind, miles, a, b, c), () -> model.feature(kind, miles, a, b, c));
    }

    private int circulation() {
        int way = below(4);
        return way == 0 ? drawn(100001) : way == 1 ? 1000 * below(12) : 1 + below(12000);
    }

    private void paper() {
        int x = drawn(bias == 1 ? 30 : 1000);
        int y = drawn(bias == 1 ? 30 : 1000);
        int n = circulation();
        both("paper", () -> house.paper(x, y, n), () -> model.paper(x, y, n));
    }

    private void contractCall() {
        int c = drawn(model.count(2));
        int draw = below(20);
        if (draw < 2) {
            both("cancel " + c, () -> house.cancel(c), () -> model.cancel(c));
        } else if (draw < 12) {
            both("miss " + c, () -> number(house.miss(c)), () -> number(model.miss(c)));
        } else {
            both("send " + c, () -> house.send(c), () -> model.send(c));
        }
    }

    private void featureCall() {
        int f = drawn(model.count(0));
        if (below(2) == 0) {
            int n = below(3) == 0 ? drawn(51) : below(4);
            both("ill " + f + " " + n, () -> number(house.ill(f, n)), () -> number(model.ill(f, n)));
        } else {
            boolean yes = below(3) == 0;
            both("stop " + f + " " + yes, () -> number(house.stop(f, yes)), () -> number(model.stop(f, yes)));
        }
    }

    private void paperCall() {
        int p = drawn(model.count(1));
        int n = circulation();
        if (below(2) == 0) {
            both("circulation " + p + " " + n, () -> number(house.circulation(p, n)), () -> number(model.circulation(p, n)));
        } else {
            int month = drawn(model.count(3) / 4);
            both("right " + p + " " + month + " " + n, () -> house.right(p, month, n), () -> model.right(p, month, n));
        }
    }

    private void weeks() {
        int draw = below(20);
        int n = draw == 0 ? drawn(31) : draw < 5 ? below(9) : 1 + below(3);
        both("weeks " + n, () -> house.weeks(n), () -> model.weeks(n));
    }

    private void text() {
        String text = drawnText();
        for (int i = 0; i < text.length(); i += 24) {
            long a = Checks.packed(text, i);
            long b = Checks.packed(text, i + 8);
            long c = Checks.packed(text, i + 16);
            both("feed", () -> house.feed(a, b, c), () -> model.feed(a, b, c));
        }
        if (below(6) > 0) {
            both("text of " + text, () -> house.text(), () -> model.text());
        }
    }

    private String drawnText() {
        StringBuilder text = new StringBuilder();
        int lines = below(12) == 0 ? 15 + below(4) : below(5);
        for (int i = 0; i < lines; i++) {
            text.append("rate").append(blank()).append(below(1000)).append(blank()).append("when ");
            drawnE(text, lines > 5 ? 4 : 0);
            text.append(";").append(blank());
        }
        if (below(2) == 0) {
            int at = below(text.length() + 1);
            int until = Math.min(text.length(), at + below(3));
            text.replace(at, until, STRAY[below(STRAY.length)]);
        }
        return text.toString();
    }

    private String blank() {
        return below(6) == 0 ? "" : below(8) == 0 ? "\n" : " ";
    }

    private void drawnE(StringBuilder text, int within) {
        drawnTest(text, within);
        while (below(4) == 0) {
            text.append(blank()).append("and").append(blank());
            drawnTest(text, within);
        }
    }

    private void drawnTest(StringBuilder text, int within) {
        drawnSum(text, within);
        int draw = below(3);
        if (draw > 0) {
            text.append(blank()).append(draw == 1 ? "<" : "=").append(blank());
            drawnSum(text, within);
        }
    }

    private void drawnSum(StringBuilder text, int within) {
        drawnPart(text, within);
        while (below(4) == 0) {
            text.append(below(2) == 0 ? "+" : "-").append(blank());
            drawnPart(text, within);
        }
    }

    private void drawnPart(StringBuilder text, int within) {
        int draw = below(6);
        if (draw == 0 && (within < 4 || below(20) == 0) && within < 7) {
            text.append("(");
            drawnE(text, within + 1);
            text.append(")");
        } else if (draw < 4) {
            text.append(FACTS[below(FACTS.length)]);
        } else {
            text.append(below(12) == 0 ? below(10000) : below(10));
        }
    }

    private void look() {
        int c = drawn(model.count(2));
        int f = drawn(model.count(0));
        int p = drawn(model.count(1));
        int month = drawn(model.count(3) / 4 + 1);
        int author = drawn(3);
        int what = drawn(10);
        int counted = drawn(8);
        switch (below(8)) {
            case 0: both("panel " + f, () -> house.panel(f), () -> model.panel(f)); break;
            case 1: both("income " + f, () -> house.income(f), () -> model.income(f)); break;
            case 2: both("share " + f + " " + author, () -> house.share(f, author), () -> model.share(f, author)); break;
            case 3: both("sells " + p + " " + month, () -> house.sells(p, month), () -> model.sells(p, month)); break;
            case 4: both("count " + counted, () -> house.count(counted), () -> model.count(counted)); break;
            default: both("look " + c + " " + what, () -> house.look(c, what), () -> model.look(c, what)); break;
        }
    }
}
