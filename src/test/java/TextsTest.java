/** Promises 13 and 14: the tape and the texts that are read from it. */
public final class TextsTest {
    private static final String LINE = "rate 1 when 1;";

    public static void main(String[] args) {
        feed();
        feedOrder();
        feedLimit();
        rightTexts();
        wrongTokens();
        wrongWords();
        wrongPlaces();
        wrongEnds();
        rates();
        lines();
        within();
        faultsKeepTheText();
        twenty();
        Checks.end();
    }

    private static int fault(int kind, int place) {
        return kind + 16 * place;
    }

    private static void reads(String text, int want) {
        PanelHouse house = new PanelHouse();
        Checks.due("text '" + text + "'", Checks.read(house, text), want);
        Checks.due("tape behind '" + text + "'", house.count(6), 0);
        Checks.due("texts behind '" + text + "'", house.count(7), want == 0 ? 1 : 0);
    }

    private static void feed() {
        PanelHouse house = new PanelHouse();
        Checks.due("nothing", house.feed(0, 0, 0), 0);
        Checks.due("signs left out", house.feed(0xFF807F1F0B090D01L, -1L, 0x8081828384858687L), 0);
        Checks.due("edges", house.feed(0x0A1F207E7F000000L, 0, 0), 3);
        Checks.due("more", house.feed(0x4100000000000000L, 0x0041000000000000L, 0x0000000000000041L), 6);
        Checks.due("signs", house.count(6), 6);
        Checks.due("24 at once", house.feed(0x4141414141414141L, 0x4141414141414141L, 0x4141414141414141L), 30);
    }

    private static void feedOrder() {
        PanelHouse house = new PanelHouse();
        house.feed(Checks.packed("rate 1 w", 0), Checks.packed("hen 1 ;r", 0), Checks.packed("ate 2000", 0));
        Checks.due("highest first, a, b, c", house.text(), fault(4, 20));
        house.feed(0x72FF61FF74FF65FFL, 0x0131010101010101L, Checks.packed("when 1;", 0));
        Checks.due("left out within a word", house.text(), 0);
    }

    private static void feedLimit() {
        PanelHouse house = new PanelHouse();
        String text = Checks.times(" ", 590) + LINE;
        Checks.due("600 at most", Checks.feed(house, text), 600);
        Checks.due("cut at 600", house.text(), fault(1, 597));
        Checks.due("empty", house.count(6), 0);
        Checks.due("600", Checks.feed(house, Checks.times(" ", 600 - LINE.length()) + LINE), 600);
        Checks.due("one more", house.feed(0, 0, 0x41), 600);
        Checks.due("600 read", house.text(), 0);
        Checks.due("one line", house.count(5), 1);
        Checks.due("a full tape of tokens", Checks.read(house, Checks.times("(", 600)), fault(1, 0));
        String sums = "rate 1 when 1" + Checks.times("+1", 293) + ";";
        Checks.due("a full tape of sums", Checks.read(house, sums), 0);
    }

    private static void rightTexts() {
        reads("", 0);
        reads("  \n \n", 0);
        reads("rate 0 when 0;", 0);
        reads("rate 999 when 9999;", 0);
        reads("rate1when2and3<4and5=6;rate7when(8);", 0);
        reads("\nrate\n0007\nwhen\nkind\n;\n", 0);
        reads("rate 1 when kind+thousands-printed<month+weeks-1;", 0);
        reads("rate 1 when (1<2)<(3=4);", 0);
        reads("rate 1 when (1 and 2)+(3 and 4)=1 and 5;", 0);
        reads("rate 1 when ((kind) - (month))and((weeks));", 0);
    }

    private static void wrongTokens() {
        reads("*", fault(1, 0));
        reads("Rate 1 when 1;", fault(1, 0));
        reads("  let", fault(1, 2));
        reads("\n \n*", fault(1, 3));
        reads("rate 1 when a;", fault(1, 12));
        reads("rate 1 when 1 > 2;", fault(1, 14));
        reads("rate 1 when 12345;", fault(1, 12));
        reads("rate 12345 when 1;", fault(1, 5));
        reads("rate 00001 when 1;", fault(1, 5));
        reads("rate 1 when thousandss;", fault(1, 12));
        reads("rate 1 when thousand;", fault(1, 12));
        reads("rate 1 when kind_;", fault(1, 16));
        reads("rate 1 when 1,2;", fault(1, 13));
        reads("ratewhen", fault(1, 0));
        reads("rate 1 when 1 and1;", 0);
        reads("rate 1 when 1 andkind;", fault(1, 14));
        reads("rate 1 when 1kind;", fault(1, 13));
        reads("rate 1 when kind1;", fault(1, 16));
        reads("rate 1 when 1 2;", fault(1, 14));
    }

    /** Each word with one letter changed, taken out or put behind is another word. */
    private static void wrongWords() {
        for (String word : new String[] {"kind", "thousands", "printed", "month", "weeks"}) {
            reads("rate 1 when " + word + ";", 0);
            for (int i = 0; i < word.length(); i++) {
                reads("rate 1 when " + word.substring(0, i) + "x" + word.substring(i + 1) + ";", fault(1, 12));
                reads("rate 1 when " + word.substring(0, i) + word.substring(i + 1) + ";", fault(1, 12));
            }
            reads("rate 1 when " + word + "s;", fault(1, 12));
        }
        for (int i = 0; i < 4; i++) {
            reads("rate".substring(0, i) + "x" + "rate".substring(i + 1) + " 1 when 1;", fault(1, 0));
            reads("rate 1 " + "when".substring(0, i) + "x" + "when".substring(i + 1) + " 1;", fault(1, 7));
        }
        for (int i = 0; i < 3; i++) {
            reads("rate 1 when 1 " + "and".substring(0, i) + "x" + "and".substring(i + 1) + " 1;", fault(1, 14));
        }
    }

    private static void wrongPlaces() {
        reads("when", fault(1, 0));
        reads(";", fault(1, 0));
        reads("1", fault(1, 0));
        reads("rate rate 1 when 1;", fault(1, 5));
        reads("rate kind when 1;", fault(1, 5));
        reads("rate when 1;", fault(1, 5));
        reads("1 when 1;", fault(1, 0));
        reads("rate 1 kind;", fault(1, 7));
        reads("rate -1 when 1;", fault(1, 5));
        reads("rate (1) when 1;", fault(1, 5));
        reads("rate 1 1;", fault(1, 7));
        reads("rate 1;", fault(1, 6));
        reads("rate 1 when ;", fault(1, 12));
        reads("rate 1 when and 1;", fault(1, 12));
        reads("rate 1 when -1;", fault(1, 12));
        reads("rate 1 when + 1;", fault(1, 12));
        reads("rate 1 when < 1;", fault(1, 12));
        reads("rate 1 when when;", fault(1, 12));
        reads("rate 1 when ();", fault(1, 13));
        reads("rate 1 when 1);", fault(1, 13));
        reads("rate 1 when (1;", fault(1, 14));
        reads("rate 1 when (1));", fault(1, 15));
        reads("rate 1 when 1 + ;", fault(1, 16));
        reads("rate 1 when 1 + + 1;", fault(1, 16));
        reads("rate 1 when 1 < ;", fault(1, 16));
        reads("rate 1 when 1 = 2 = 3;", fault(1, 18));
        reads("rate 1 when 1 = 2 < 3;", fault(1, 18));
        reads("rate 1 when (1 = 2 < 3);", fault(1, 19));
        reads("rate 1 when 1 and and 2;", fault(1, 18));
        reads("rate 1 when 1 and ;", fault(1, 18));
        reads("rate 1 when 1 (2);", fault(1, 14));
        reads("rate 1 when (1)(2);", fault(1, 15));
        reads("rate 1 when 1;;", fault(1, 14));
        reads("rate 1 when 1; when", fault(1, 15));
        reads("rate 1 when 1 rate", fault(1, 14));
    }

    private static void wrongEnds() {
        reads("rate", fault(1, 4));
        reads("rate  ", fault(1, 6));
        reads("rate 1", fault(1, 6));
        reads("rate 1 when", fault(1, 11));
        reads("rate 1 when 1", fault(1, 13));
        reads("rate 1 when 1 <\n", fault(1, 16));
        reads("rate 1 when (1 ", fault(1, 15));
        reads("\n\nrate 1 when 1 and", fault(1, 19));
    }

    private static void rates() {
        reads("rate 1000 when 1;", fault(4, 5));
        reads("rate 9999 when 1;", fault(4, 5));
        reads("rate 1000", fault(4, 5));
        reads("rate 0999 when 1;", 0);
        reads("rate 1 when 1; rate 1000 *", fault(4, 20));
        reads("rate 1 when *; rate 1000 when 1;", fault(1, 12));
        reads("rate 1000 when *;", fault(4, 5));
    }

    private static void lines() {
        reads(Checks.times(LINE, 16), 0);
        reads(Checks.times(LINE, 16) + " \n", 0);
        reads(Checks.times(LINE, 17), fault(5, 16 * LINE.length()));
        reads(Checks.times(LINE, 16) + " rate", fault(5, 16 * LINE.length() + 1));
        reads(Checks.times(LINE, 16) + " when", fault(1, 16 * LINE.length() + 1));
        reads(Checks.times(LINE, 16) + ";", fault(1, 16 * LINE.length()));
        PanelHouse house = new PanelHouse();
        for (int n = 0; n <= 16; n++) {
            Checks.due(n + " lines", Checks.read(house, Checks.times(LINE, n)), 0);
            Checks.due("count of lines", house.count(5), n);
        }
    }

    private static void within() {
        reads("rate 1 when ((((1))));", 0);
        reads("rate 1 when ((((1)+(kind))<((weeks))));", 0);
        reads("rate 1 when (((((1)))));", fault(5, 17));
        reads("rate 1 when (((((kind)))));", fault(5, 17));
        reads("rate 1 when ((((((1))))));", fault(5, 17));
        reads("rate 1 when (((((", fault(1, 17));
        reads("rate 1 when ((((()))));", fault(1, 17));
        reads("rate 1 when (((((12345)))));", fault(1, 17));
        reads("rate 1 when (((((and", fault(1, 17));
        reads("rate 1 when ((((1)))) + ((((1)))) + (((((1)))));", fault(5, 41));
        reads("rate 1 when ((((1+((1)+2)))));", fault(5, 19));
        reads("rate 1 when ((((1+(1)+2))));", fault(5, 19));
        reads("rate 1 when (((1+(1)+2)));", 0);
    }

    private static void faultsKeepTheText() {
        PanelHouse house = new PanelHouse();
        Checks.read(house, LINE + LINE);
        Checks.due("faulty", Checks.read(house, LINE + "rate"), fault(1, LINE.length() + 4));
        Checks.due("the text there was", house.count(5), 2);
        Checks.due("a faulty one is not taken", house.count(7), 1);
        Checks.due("an empty one", house.text(), 0);
        Checks.due("is in its place", house.count(5), 0);
        Checks.due("and taken", house.count(7), 2);
    }

    private static void twenty() {
        PanelHouse house = new PanelHouse();
        for (int i = 0; i < 20; i++) {
            Checks.due("faulty between", Checks.read(house, "rat"), fault(1, 0));
            Checks.due("text " + i, Checks.read(house, LINE), 0);
            Checks.due("taken", house.count(7), i + 1);
        }
        Checks.due("a 21st", Checks.read(house, LINE + LINE), -1);
        Checks.due("its tape is empty", house.count(6), 0);
        Checks.due("the 20th stays", house.count(5), 1);
        Checks.due("a faulty 21st", Checks.read(house, "*"), -1);
        Checks.due("an empty 21st", house.text(), -1);
        Checks.due("twenty", house.count(7), 20);
        Checks.due("the tape goes on", Checks.feed(house, "abc"), 3);
    }
}
