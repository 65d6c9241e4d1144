import java.util.ArrayList;
import java.util.Arrays;
import java.util.NoSuchElementException;

/** A house that sells the panels of its features to papers, week by week, as ../shared/DOC.md promises. */
public final class PanelHouse {
    public static final int NONE = -1;

    private static final int MOST_WEEKS = 200;
    private static final int WEEKS_OF_MONTH = 4;
    private static final int MOST_MONTHS = MOST_WEEKS / WEEKS_OF_MONTH;
    private static final int MOST_FEATURES = 10;
    private static final int MOST_KIND = 3;
    private static final int MOST_MILES = 500;
    private static final int AUTHORS = 3;
    private static final int MOST_SHARE = 100;
    private static final int MOST_PAPERS = 20;
    private static final int MOST_PLACE = 999;
    private static final int MOST_CIRCULATION = 100000;
    private static final int THOUSAND = 1000;
    private static final int MOST_CONTRACTS = 60;
    private static final int WEEKS_MORE = 4;
    private static final int MOST_ILL = 50;
    private static final int MOST_WEEKS_A_CALL = 30;

    private static final int SIGNED = 100;
    private static final int NO_SUCH = 1;
    private static final int HAS_ONE = 2;
    private static final int BARRED = 3;
    private static final int STOPPED = 4;

    private static final int MOST_SIGNS = 600;
    private static final int MOST_LETTERS = 9;
    private static final int MOST_DIGITS = 4;
    private static final int MOST_TEXTS = 20;
    private static final int MOST_LINES = 16;
    private static final int MOST_WITHIN = 5;
    private static final int MOST_RATE = 999;

    private static final int FAULT_WRONG = 1;
    private static final int FAULT_RATE = 4;
    private static final int FAULT_TOO_MANY = 5;
    private static final int FAULT_PLACE = 16;

    // A token and a step of a text's code are one number: 0 to 9999 is a NUMBER and stands for itself.
    private static final int FACT = 10000;
    private static final int FACTS = 5;
    private static final int KIND = FACT;
    private static final int THOUSANDS = FACT + 1;
    private static final int PRINTED = FACT + 2;
    private static final int MONTH = FACT + 3;
    private static final int WEEKS = FACT + 4;
    private static final int PLUS = 10010;
    private static final int MINUS = 10011;
    private static final int LESS = 10012;
    private static final int SAME = 10013;
    private static final int AND = 10014;
    private static final int RATE = 10020;
    private static final int WHEN = 10021;
    private static final int OPEN = 10022;
    private static final int CLOSE = 10023;
    private static final int LINE_END = 10024;
    private static final int TEXT_END = 10025;
    private static final int NO_TOKEN = 10026;
    private static final int LINE = 20000;

    // Five levels hold three waiting values each at most, and one more is on top.
    private static final int MOST_WAITING = 32;

    private final ArrayList<Feature> features = new ArrayList<Feature>();
    private final ArrayList<Paper> papers = new ArrayList<Paper>();
    private final ArrayList<Contract> contracts = new ArrayList<Contract>();
    private final Tape tape = new Tape();
    private final TextReader reader = new TextReader();
    private final Reckoner reckoner = new Reckoner();
    private final RateText[] textOfMonth = new RateText[MOST_MONTHS];
    private RateText rates = new RateText(new int[0], 0);
    private int textsTaken = 0;
    private int now = 0;

    public PanelHouse() {
    }

    public int feature(int kind, int miles, int a, int b, int c) {
        boolean sharesFit = isWithin(a, 0, MOST_SHARE) && isWithin(b, 0, MOST_SHARE) && isWithin(c, 0, MOST_SHARE);
        if (!sharesFit || a + b + c == 0) {
            return NONE;
        }
        if (!isWithin(kind, 0, MOST_KIND) || !isWithin(miles, 0, MOST_MILES) || features.size() >= MOST_FEATURES) {
            return NONE;
        }
        Feature made = new Feature(features.size(), kind, miles, a, b, c);
        features.add(made);
        return made.number;
    }

    public int paper(int x, int y, int circulation) {
        if (!isWithin(x, 0, MOST_PLACE) || !isWithin(y, 0, MOST_PLACE) || !isCirculation(circulation)) {
            return NONE;
        }
        if (papers.size() >= MOST_PAPERS) {
            return NONE;
        }
        Paper made = new Paper(papers.size(), x, y, circulation);
        papers.add(made);
        return made.number;
    }

    public boolean circulation(int paper, int n) {
        Paper told = paperAt(paper);
        if (told == null || !isCirculation(n)) {
            return false;
        }
        told.sellFrom(runningMonth(), n);
        return true;
    }

    public int right(int paper, int month, int n) throws NoSuchElementException {
        Paper wronged = paperAt(paper);
        if (wronged == null || month < 0 || month >= runningMonth() || !isCirculation(n)) {
            throw new NoSuchElementException();
        }
        int before = wronged.soldIn(month);
        wronged.putRight(month, n);
        int besides = 0;
        for (int i = 0; i < contracts.size(); i++) {
            Contract contract = contracts.get(i);
            if (contract.paper == wronged) {
                int more = reckon(contract, month, n) - reckon(contract, month, before);
                contract.addBill(more);
                besides += more;
            }
        }
        return besides;
    }

    public int sign(int paper, int feature) {
        Paper buyer = paperAt(paper);
        Feature sold = featureAt(feature);
        if (buyer == null || sold == null || contracts.size() >= MOST_CONTRACTS) {
            return NO_SUCH;
        }
        if (hasRunning(buyer, sold)) {
            return HAS_ONE;
        }
        if (isBarred(buyer, sold)) {
            return BARRED;
        }
        if (sold.stopped) {
            return STOPPED;
        }
        int number = contracts.size();
        contracts.add(new Contract(buyer, sold, now + 1));
        return SIGNED + number;
    }

    public int cancel(int contract) {
        Contract ended = contractAt(contract);
        if (ended == null || ended.last != NONE) {
            return NONE;
        }
        ended.last = now + WEEKS_MORE;
        return ended.last;
    }

    public boolean ill(int feature, int n) {
        Feature told = featureAt(feature);
        if (told == null || !isWithin(n, 1, MOST_ILL)) {
            return false;
        }
        told.illUntil = now + n;
        return true;
    }

    public boolean stop(int feature, boolean yes) {
        Feature sued = featureAt(feature);
        if (sued == null || sued.stopped == yes) {
            return false;
        }
        sued.stopped = yes;
        return true;
    }

    public boolean miss(int contract) {
        Contract told = contractAt(contract);
        if (told == null || told.missWeek == now + 1) {
            return false;
        }
        told.missWeek = now + 1;
        return true;
    }

    public int send(int contract) {
        Contract asked = contractAt(contract);
        return asked == null ? NONE : asked.sendAgain();
    }

    public int weeks(int n) {
        if (!isWithin(n, 0, MOST_WEEKS_A_CALL) || now + n > MOST_WEEKS) {
            return NONE;
        }
        for (int i = 0; i < n; i++) {
            passWeek();
        }
        return now;
    }

    public int feed(long a, long b, long c) {
        tape.addBytes(a);
        tape.addBytes(b);
        tape.addBytes(c);
        return tape.length;
    }

    public int text() {
        if (textsTaken >= MOST_TEXTS) {
            tape.clear();
            return NONE;
        }
        int fault = reader.read(tape);
        tape.clear();
        if (fault == 0) {
            rates = reader.rateText();
            textsTaken++;
        }
        return fault;
    }

    public int look(int contract, int what) throws NoSuchElementException {
        Contract seen = contractAt(contract);
        if (seen == null) {
            throw new NoSuchElementException();
        }
        switch (what) {
            case 0: return seen.paper.number;
            case 1: return seen.feature.number;
            case 2: return seen.first;
            case 3: return seen.last;
            case 4: return seen.runsIn(now + 1) ? 1 : 0;
            case 5: return seen.printed;
            case 6: return seen.nextPanel();
            case 7: return seen.gap();
            case 8: return seen.missing();
            case 9: return seen.billed;
            default: throw new NoSuchElementException();
        }
    }

    public int panel(int feature) {
        Feature seen = featureAt(feature);
        return seen == null ? NONE : seen.latest;
    }

    public int income(int feature) throws NoSuchElementException {
        Feature seen = featureAt(feature);
        if (seen == null) {
            throw new NoSuchElementException();
        }
        return seen.income;
    }

    public int share(int feature, int author) {
        Feature seen = featureAt(feature);
        if (seen == null || !isWithin(author, 0, AUTHORS - 1)) {
            return NONE;
        }
        return seen.coinsOf(author);
    }

    public int sells(int paper, int month) {
        Paper seen = paperAt(paper);
        if (seen == null || !isWithin(month, 0, runningMonth())) {
            return NONE;
        }
        return seen.soldIn(month);
    }

    public int count(int what) {
        switch (what) {
            case 0: return features.size();
            case 1: return papers.size();
            case 2: return contracts.size();
            case 3: return now;
            case 4: return runningContracts();
            case 5: return rates.lines;
            case 6: return tape.length;
            case 7: return textsTaken;
            default: return NONE;
        }
    }

    private static boolean isWithin(int n, int least, int most) {
        return n >= least && n <= most;
    }

    private static boolean isCirculation(int n) {
        return isWithin(n, 1, MOST_CIRCULATION);
    }

    private Feature featureAt(int number) {
        return isWithin(number, 0, features.size() - 1) ? features.get(number) : null;
    }

    private Paper paperAt(int number) {
        return isWithin(number, 0, papers.size() - 1) ? papers.get(number) : null;
    }

    private Contract contractAt(int number) {
        return isWithin(number, 0, contracts.size() - 1) ? contracts.get(number) : null;
    }

    /** A month is over with its last week, so the one that runs is that of the next week. */
    private int runningMonth() {
        return now / WEEKS_OF_MONTH;
    }

    private int runningContracts() {
        int running = 0;
        for (int i = 0; i < contracts.size(); i++) {
            if (contracts.get(i).runsIn(now + 1)) {
                running++;
            }
        }
        return running;
    }

    private boolean hasRunning(Paper buyer, Feature sold) {
        for (int i = 0; i < contracts.size(); i++) {
            Contract other = contracts.get(i);
            if (other.paper == buyer && other.feature == sold && other.runsIn(now + 1)) {
                return true;
            }
        }
        return false;
    }

    private boolean isBarred(Paper buyer, Feature sold) {
        for (int i = 0; i < contracts.size(); i++) {
            Contract other = contracts.get(i);
            boolean neighbour = other.paper != buyer && other.feature == sold && other.runsIn(now + 1);
            if (neighbour && other.paper.isNearer(buyer, sold.miles)) {
                return true;
            }
        }
        return false;
    }

    private void passWeek() {
        now++;
        for (int i = 0; i < features.size(); i++) {
            features.get(i).draw(now);
        }
        for (int i = 0; i < contracts.size(); i++) {
            Contract contract = contracts.get(i);
            if (contract.runsIn(now)) {
                contract.receive(now);
                contract.print((now - 1) / WEEKS_OF_MONTH);
            }
        }
        if (now % WEEKS_OF_MONTH == 0) {
            endMonth(now / WEEKS_OF_MONTH - 1);
        }
    }

    private void endMonth(int month) {
        if (!isWithin(month, 0, MOST_MONTHS - 1)) {
            return;
        }
        textOfMonth[month] = rates;
        for (int i = 0; i < contracts.size(); i++) {
            Contract contract = contracts.get(i);
            contract.addBill(reckon(contract, month, contract.paper.soldIn(month)));
        }
    }

    /** The bill of a month that is over; nothing in it but the circulation can change any more. */
    private int reckon(Contract contract, int month, int circulation) {
        RateText text = isWithin(month, 0, MOST_MONTHS - 1) ? textOfMonth[month] : null;
        int ran = contract.weeksRunIn(month);
        if (text == null || ran == 0) {
            return 0;
        }
        int printed = contract.printedIn(month);
        reckoner.tell(KIND, contract.feature.kind);
        reckoner.tell(THOUSANDS, circulation / THOUSAND);
        reckoner.tell(PRINTED, printed);
        reckoner.tell(MONTH, month);
        reckoner.tell(WEEKS, ran);
        long thousandfold = (long) reckoner.rateBy(text) * printed * circulation;
        return (int) (thousandfold / THOUSAND);
    }

    /** What is drawn by its author week by week, and what it has earned. */
    private static final class Feature {
        private final int number;
        private final int kind;
        private final int miles;
        private final int[] shares = new int[AUTHORS];
        private boolean stopped = false;
        private int illUntil = 0;
        private int latest = 0;
        private boolean fresh = false;
        private int income = 0;

        private Feature(int number, int kind, int miles, int a, int b, int c) {
            this.number = number;
            this.kind = kind;
            this.miles = miles;
            shares[0] = a;
            shares[1] = b;
            shares[2] = c;
        }

        private void draw(int week) {
            fresh = !stopped && week > illUntil;
            if (fresh) {
                latest++;
            }
        }

        private int coinsOf(int author) {
            if (income <= 0) {
                return 0;
            }
            long left = income;
            for (int i = 0; i < AUTHORS; i++) {
                left -= cutOf(i);
            }
            return (int) (cutOf(author) + (placeByRest(author) < left ? 1 : 0));
        }

        private long cutOf(int author) {
            long all = allShares();
            return all <= 0 ? 0 : (long) income * shareOf(author) / all;
        }

        private long restOf(int author) {
            long all = allShares();
            return all <= 0 ? 0 : (long) income * shareOf(author) % all;
        }

        private int placeByRest(int author) {
            long rest = restOf(author);
            int place = 0;
            for (int i = 0; i < AUTHORS; i++) {
                long other = restOf(i);
                if (other > rest || (other == rest && i < author)) {
                    place++;
                }
            }
            return place;
        }

        private int shareOf(int author) {
            return isWithin(author, 0, shares.length - 1) ? shares[author] : 0;
        }

        private long allShares() {
            long all = 0;
            for (int i = 0; i < shares.length; i++) {
                all += shares[i];
            }
            return all;
        }
    }

    /** A place, and the circulation of every month: those to come hold the one told last. */
    private static final class Paper {
        private final int number;
        private final int x;
        private final int y;
        // One month more than there are: behind week 200 the next one counts as running.
        private final int[] sold = new int[MOST_MONTHS + 1];

        private Paper(int number, int x, int y, int circulation) {
            this.number = number;
            this.x = x;
            this.y = y;
            Arrays.fill(sold, circulation);
        }

        private void sellFrom(int month, int circulation) {
            for (int i = Math.max(month, 0); i < sold.length; i++) {
                sold[i] = circulation;
            }
        }

        private void putRight(int month, int circulation) {
            if (isWithin(month, 0, sold.length - 1)) {
                sold[month] = circulation;
            }
        }

        private int soldIn(int month) {
            return isWithin(month, 0, sold.length - 1) ? sold[month] : 0;
        }

        private boolean isNearer(Paper other, int miles) {
            int wide = x - other.x;
            int high = y - other.y;
            return wide * wide + high * high < miles * miles;
        }
    }

    /** A paper's right to a feature; its run is a row of panels without a hole, from runStart on. */
    private static final class Contract {
        private final Paper paper;
        private final Feature feature;
        private final int first;
        private int last = NONE;
        private int missWeek = 0;
        private int runStart = NONE;
        private int runLength = 0;
        private int printed = 0;
        private int billed = 0;
        // By the place in the run. What is sent again counts as there at once: no week goes by in between.
        private final boolean[] there = new boolean[MOST_WEEKS];
        private final int[] printedByMonth = new int[MOST_MONTHS];

        private Contract(Paper paper, Feature feature, int first) {
            this.paper = paper;
            this.feature = feature;
            this.first = first;
        }

        private boolean runsIn(int week) {
            return week >= first && (last == NONE || week <= last);
        }

        private int weeksRunIn(int month) {
            int ran = 0;
            for (int i = 1; i <= WEEKS_OF_MONTH; i++) {
                if (runsIn(month * WEEKS_OF_MONTH + i)) {
                    ran++;
                }
            }
            return ran;
        }

        private void receive(int week) {
            if (!feature.fresh || runLength >= there.length) {
                return;
            }
            if (runLength == 0) {
                runStart = feature.latest;
            }
            there[runLength] = missWeek != week;
            runLength++;
        }

        private void print(int month) {
            if (!isThere(printed)) {
                return;
            }
            int printedNow = 1;
            boolean nextIsOld = !feature.fresh || printed + 1 < runLength - 1;
            if (nextIsOld && isThere(printed + 1)) {
                printedNow = 2;
            }
            printed += printedNow;
            if (isWithin(month, 0, printedByMonth.length - 1)) {
                printedByMonth[month] += printedNow;
            }
        }

        private boolean isThere(int place) {
            return place >= 0 && place < runLength && place < there.length && there[place];
        }

        private int printedIn(int month) {
            return isWithin(month, 0, printedByMonth.length - 1) ? printedByMonth[month] : 0;
        }

        private int nextPanel() {
            return runLength == 0 ? NONE : runStart + printed;
        }

        private int gap() {
            return runLength - printed;
        }

        private int missing() {
            int missing = 0;
            for (int i = printed; i < runLength; i++) {
                if (!isThere(i)) {
                    missing++;
                }
            }
            return missing;
        }

        private int sendAgain() {
            for (int i = Math.max(printed, 0); i < runLength && i < there.length; i++) {
                if (!there[i]) {
                    there[i] = true;
                    return runStart + i;
                }
            }
            return NONE;
        }

        private void addBill(int more) {
            billed += more;
            feature.income += more;
        }
    }

    /** The signs that came and were not read yet. */
    private static final class Tape {
        private final byte[] signs = new byte[MOST_SIGNS];
        private int length = 0;

        private void addBytes(long bytes) {
            for (int shift = 56; shift >= 0; shift -= 8) {
                addSign((int) (bytes >>> shift) & 255);
            }
        }

        private void addSign(int sign) {
            boolean fits = sign == 10 || isWithin(sign, 32, 126);
            if (fits && length < signs.length) {
                signs[length] = (byte) sign;
                length++;
            }
        }

        private int signAt(int place) {
            return place >= 0 && place < length && place < signs.length ? signs[place] : 0;
        }

        private void clear() {
            length = 0;
        }
    }

    /** The tokens of a tape, with the end as the last one. */
    private static final class Tokens {
        private final int[] kinds = new int[MOST_SIGNS + 1];
        private final int[] places = new int[MOST_SIGNS + 1];
        private int size = 0;

        private void scan(Tape tape) {
            size = 0;
            int place = 0;
            for (int i = 0; i < MOST_SIGNS && place < tape.length; i++) {
                int sign = tape.signAt(place);
                if (isDigit(sign)) {
                    place = addNumber(tape, place);
                } else if (isLetter(sign)) {
                    place = addWord(tape, place);
                } else {
                    if (sign != 10 && sign != 32) {
                        add(signKind(sign), place);
                    }
                    place++;
                }
            }
            add(TEXT_END, tape.length);
        }

        private int addNumber(Tape tape, int start) {
            int end = start;
            int value = 0;
            while (end < tape.length && isDigit(tape.signAt(end))) {
                if (end - start < MOST_DIGITS) {
                    value = value * 10 + tape.signAt(end) - '0';
                }
                end++;
            }
            add(end - start > MOST_DIGITS ? NO_TOKEN : value, start);
            return end;
        }

        private int addWord(Tape tape, int start) {
            int end = start;
            while (end < tape.length && isLetter(tape.signAt(end))) {
                end++;
            }
            add(end - start > MOST_LETTERS ? NO_TOKEN : wordKind(tape, start, end), start);
            return end;
        }

        private void add(int kind, int place) {
            if (size < kinds.length && size < places.length) {
                kinds[size] = kind;
                places[size] = place;
                size++;
            }
        }

        private static boolean isDigit(int sign) {
            return isWithin(sign, '0', '9');
        }

        private static boolean isLetter(int sign) {
            return isWithin(sign, 'a', 'z');
        }

        private static int signKind(int sign) {
            switch (sign) {
                case '(': return OPEN;
                case ')': return CLOSE;
                case '<': return LESS;
                case '=': return SAME;
                case '+': return PLUS;
                case '-': return MINUS;
                case ';': return LINE_END;
                default: return NO_TOKEN;
            }
        }

        private static int wordKind(Tape tape, int start, int end) {
            if (spells(tape, start, end, "rate")) {
                return RATE;
            }
            if (spells(tape, start, end, "when")) {
                return WHEN;
            }
            if (spells(tape, start, end, "and")) {
                return AND;
            }
            if (spells(tape, start, end, "kind")) {
                return KIND;
            }
            if (spells(tape, start, end, "thousands")) {
                return THOUSANDS;
            }
            if (spells(tape, start, end, "printed")) {
                return PRINTED;
            }
            if (spells(tape, start, end, "month")) {
                return MONTH;
            }
            return spells(tape, start, end, "weeks") ? WEEKS : NO_TOKEN;
        }

        private static boolean spells(Tape tape, int start, int end, String word) {
            if (end - start != word.length()) {
                return false;
            }
            for (int i = 0; i < word.length(); i++) {
                if (tape.signAt(start + i) != word.charAt(i)) {
                    return false;
                }
            }
            return true;
        }
    }

    /** Reads a tape as a text and writes its code: each line's E in postfix, and behind it LINE + its rate. */
    private static final class TextReader {
        private final Tokens tokens = new Tokens();
        // Every token writes one step at most.
        private final int[] code = new int[MOST_SIGNS];
        private int codeLength = 0;
        private int at = 0;
        private int token = NO_TOKEN;
        private int lines = 0;
        private int fault = 0;

        private int read(Tape tape) {
            tokens.scan(tape);
            codeLength = 0;
            lines = 0;
            fault = 0;
            at = -1;
            goOn();
            for (int i = 0; i <= MOST_LINES && fault == 0 && token != TEXT_END; i++) {
                readLine();
            }
            return fault;
        }

        private RateText rateText() {
            int length = Math.max(0, Math.min(codeLength, code.length));
            return new RateText(Arrays.copyOf(code, length), lines);
        }

        private void readLine() {
            if (token == RATE && lines >= MOST_LINES) {
                mark(FAULT_TOO_MANY);
            }
            take(RATE);
            int rate = takeRate();
            take(WHEN);
            readAnds(0);
            take(LINE_END);
            write(LINE + rate);
            lines++;
        }

        private int takeRate() {
            int rate = token;
            if (!isWithin(rate, 0, FACT - 1)) {
                mark(FAULT_WRONG);
                return 0;
            }
            if (rate > MOST_RATE) {
                mark(FAULT_RATE);
                return 0;
            }
            goOn();
            return rate;
        }

        private void readAnds(int within) {
            readTest(within);
            for (int i = 0; i < MOST_SIGNS && token == AND; i++) {
                goOn();
                readTest(within);
                write(AND);
            }
        }

        private void readTest(int within) {
            readSum(within);
            int sign = token;
            if (sign == LESS || sign == SAME) {
                goOn();
                readSum(within);
                write(sign);
            }
        }

        private void readSum(int within) {
            readPart(within);
            for (int i = 0; i < MOST_SIGNS && (token == PLUS || token == MINUS); i++) {
                int sign = token;
                goOn();
                readPart(within);
                write(sign);
            }
        }

        private void readPart(int within) {
            int part = token;
            boolean isValue = part >= 0 && part < FACT + FACTS;
            if (!isValue && part != OPEN) {
                mark(FAULT_WRONG);
                return;
            }
            if (within >= MOST_WITHIN) {
                mark(FAULT_TOO_MANY);
                return;
            }
            goOn();
            if (isValue) {
                write(part);
                return;
            }
            readAnds(within + 1);
            if (token == CLOSE) {
                goOn();
            } else {
                mark(FAULT_WRONG);
            }
        }

        private void take(int kind) {
            if (token == kind) {
                goOn();
            } else {
                mark(FAULT_WRONG);
            }
        }

        private void goOn() {
            at++;
            boolean isToken = at >= 0 && at < tokens.size && at < tokens.kinds.length;
            token = isToken ? tokens.kinds[at] : NO_TOKEN;
        }

        /** Behind a fault there is no token that could stand anywhere, so that all reading comes to its end. */
        private void mark(int kind) {
            if (fault == 0) {
                boolean isToken = at >= 0 && at < tokens.size && at < tokens.places.length;
                fault = kind + FAULT_PLACE * (isToken ? tokens.places[at] : 0);
            }
            token = NO_TOKEN;
        }

        private void write(int step) {
            if (codeLength >= 0 && codeLength < code.length) {
                code[codeLength] = step;
                codeLength++;
            }
        }
    }

    /** A text that was taken. */
    private static final class RateText {
        private final int[] code;
        private final int lines;

        private RateText(int[] code, int lines) {
            this.code = code;
            this.lines = lines;
        }
    }

    /** Finds the rate of a bill: what it is told of the bill, and the values that wait. */
    private static final class Reckoner {
        private final int[] facts = new int[FACTS];
        private final int[] waiting = new int[MOST_WAITING];
        private int height = 0;

        private void tell(int fact, int value) {
            if (isWithin(fact, FACT, FACT + facts.length - 1)) {
                facts[fact - FACT] = value;
            }
        }

        private int rateBy(RateText text) {
            height = 0;
            for (int i = 0; i < text.code.length; i++) {
                int step = text.code[i];
                if (step < LINE) {
                    take(step);
                } else if (pop() != 0) {
                    return step - LINE;
                }
            }
            return 0;
        }

        private void take(int step) {
            if (step < FACT) {
                push(step);
            } else if (step < FACT + facts.length) {
                push(facts[step - FACT]);
            } else {
                int right = pop();
                int left = pop();
                push(join(step, left, right));
            }
        }

        private static int join(int step, int left, int right) {
            switch (step) {
                case PLUS: return left + right;
                case MINUS: return left - right;
                case LESS: return left < right ? 1 : 0;
                case SAME: return left == right ? 1 : 0;
                default: return left != 0 && right != 0 ? 1 : 0;
            }
        }

        private void push(int value) {
            if (height >= 0 && height < waiting.length) {
                waiting[height] = value;
                height++;
            }
        }

        private int pop() {
            if (height <= 0 || height > waiting.length) {
                return 0;
            }
            height--;
            return waiting[height];
        }
    }
}
