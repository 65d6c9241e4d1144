/** The document's third part and promises 13 and 14: the tape, its tokens, texts and their faults, at their edges. */
public final class EdgesOfTextsTest {
    private static final String LINE = "rate 1 when 1;";
    private static final String HEAD = "rate 1 when ";
    private static final int AT = HEAD.length();

    public static void main(String[] args) {
        sixHundredSigns();
        signsThatAreKept();
        highestByteFirst();
        twentyFourAtOnce();
        readingEmptiesTheTape();
        blanksWhereOneLikes();
        blanksWithinATokenPartIt();
        wordsOfNineLetters();
        wordsAsLongAsCanBe();
        numbersOfFourDigits();
        letterRightBehindANumber();
        allElseIsNone();
        emptyText();
        sixteenLines();
        seventeenthLineAtItsFirstToken();
        rateUpTo999();
        testsSumsAndParts();
        fiveWithinOneAnother();
        theEndIsAToken();
        firstFromTheLeft();
        theLeastOfOneToken();
        farthestPlace();
        faultyTextIsNotTaken();
        twentyTexts();
        Checks.end();
    }

    private static int fault(int kind, int place) {
        return kind + 16 * place;
    }

    private static void reads(String text, int want) {
        PanelHouse house = new PanelHouse();
        Checks.due("text '" + text + "'", Checks.read(house, text), want);
        Checks.due("texts taken behind '" + text + "'", house.count(7), want == 0 ? 1 : 0);
    }

    private static String blanks(int n) {
        return Checks.times(" ", n);
    }

    /** "The TAPE has at most 600 signs"; promise 13: "what is beyond 600, are left out". */
    private static void sixHundredSigns() {
        PanelHouse house = new PanelHouse();
        Checks.due("599", Checks.feed(house, blanks(599)), 599);
        Checks.due("the 600th", house.feed(0, 0, '*'), 600);
        Checks.due("a 601st", house.feed(0, 0, '*'), 600);
        Checks.due("many more", house.feed(0x4141414141414141L, 0x4141414141414141L, 0x4141414141414141L), 600);
        Checks.due("signs", house.count(6), 600);
        Checks.due("the 600th was kept", house.text(), fault(1, 599));
        Checks.due("empty then", house.feed(0, 0, 0), 0);
        Checks.feed(house, blanks(590));
        Checks.due("10 of 24", Checks.feed(house, Checks.times("*", 24)), 600);
        Checks.due("the first of them stand behind 590", house.text(), fault(1, 590));
        Checks.feed(house, blanks(600 - LINE.length()) + LINE + "*");
        Checks.due("left out, so right", house.text(), 0);
    }

    /** "signs, 10 and 32 .. 126"; promise 13: "others than 10 and 32 .. 126 ... are left out". */
    private static void signsThatAreKept() {
        PanelHouse house = new PanelHouse();
        int kept = 0;
        for (int sign = 0; sign <= 255; sign++) {
            kept += sign == 10 || sign >= 32 && sign <= 126 ? 1 : 0;
            Checks.due("sign " + sign, house.feed((long) sign << 56, 0, 0), kept);
        }
        int[] edges = {9, 10, 11, 31, 32, 126, 127, 128, 138, 160, 255};
        boolean[] keeps = {false, true, false, false, true, true, false, false, false, false, false};
        for (int i = 0; i < edges.length; i++) {
            PanelHouse edge = new PanelHouse();
            Checks.due("sign " + edges[i] + " alone", edge.feed(0, 0, edges[i]), keeps[i] ? 1 : 0);
        }
        reads("ra\tte 1 wh\u00e9en 1;", 0);
        reads("rate 1 when 1\u0000\u007f\u00a0*", fault(1, 13));
    }

    /** Promise 13: "the bytes of a, b, c, of each the highest first". */
    private static void highestByteFirst() {
        for (int place = 0; place < 24; place++) {
            PanelHouse house = new PanelHouse();
            String signs = blanks(place) + "*" + blanks(23 - place);
            house.feed(Checks.packed(signs, 0), Checks.packed(signs, 8), Checks.packed(signs, 16));
            Checks.due("at place " + place, house.text(), fault(1, place));
        }
    }

    /** Promise 13: "Up to 24 signs come behind the TAPE: ... how many there are." */
    private static void twentyFourAtOnce() {
        PanelHouse house = new PanelHouse();
        Checks.due("none", house.feed(0, 0, 0), 0);
        Checks.due("one", house.feed(0, ' ', 0), 1);
        Checks.due("24", house.feed(0x2020202020202020L, 0x2020202020202020L, 0x2020202020202020L), 25);
        Checks.due("none of 24", house.feed(-1L, Long.MIN_VALUE, 0x7F7F7F7F7F7F7F7FL), 25);
        Checks.due("23", house.feed(0x2020202020202020L, 0x20202000_20202020L, 0x2020202020202020L), 48);
        Checks.due("behind them", house.feed('*', 0, 0), 49);
        Checks.due("read", house.text(), fault(1, 48));
    }

    /** "what reads it takes it: it is empty then", be the text right, faulty or one too many. */
    private static void readingEmptiesTheTape() {
        PanelHouse house = new PanelHouse();
        Checks.read(house, LINE);
        Checks.due("right", house.count(6), 0);
        Checks.read(house, "rate *");
        Checks.due("faulty", house.count(6), 0);
        Checks.due("nothing is left of it", Checks.read(house, LINE), 0);
        for (int i = 2; i < 20; i++) {
            house.text();
        }
        Checks.due("one too many", Checks.read(house, LINE), -1);
        Checks.due("it is empty, too", house.count(6), 0);
    }

    /** "blanks (10, 32) between where one likes", also none, many, at the start and at the end. */
    private static void blanksWhereOneLikes() {
        reads("rate1when1<2and(kind+3)=weeks-4;rate2when5;", 0);
        reads(" \n rate \n 1 \n when \n 1 \n ; \n ", 0);
        reads("rate 1 when ( kind ) < ( 2 ) ;", 0);
        reads("\n" + LINE, 0);
        reads(LINE + "\n", 0);
        reads("rate\n1\nwhen\n1\n;", 0);
        reads("rate1when kind and(weeks);", 0);
    }

    /** "blanks (10, 32) between": one within a token makes two of it. */
    private static void blanksWithinATokenPartIt() {
        reads("ra te 1 when 1;", fault(1, 0));
        reads("rate 1 0 when 1;", fault(1, 7));
        reads(HEAD + "1 0;", fault(1, AT + 2));
        reads(HEAD + "thou\nsands;", fault(1, AT));
    }

    /** "WORDS (letters a .. z, 9 at most)"; "a longer WORD ..., too, at its first sign ... is none". */
    private static void wordsOfNineLetters() {
        reads(HEAD + "thousands;", 0);
        reads(HEAD + "thousandsa;", fault(1, AT));
        reads(HEAD + "thousandsz;", fault(1, AT));
        reads(HEAD + "thousands and 1;", 0);
        reads(HEAD + "thousandsand 1;", fault(1, AT));
        reads(HEAD + Checks.times("a", 9) + ";", fault(1, AT));
        reads(HEAD + "1 + " + Checks.times("z", 300) + ";", fault(1, AT + 4));
        reads(Checks.times("rate", 100), fault(1, 0));
    }

    /** "TOKENS, each as long as can be": two words without a blank are another word. */
    private static void wordsAsLongAsCanBe() {
        reads("ratewhen 1;", fault(1, 0));
        reads("rate 1 whenkind;", fault(1, 7));
        reads(HEAD + "1 andkind;", fault(1, AT + 2));
        reads(HEAD + "kindand 1;", fault(1, AT));
        reads(HEAD + "weekss;", fault(1, AT));
        reads(HEAD + "week;", fault(1, AT));
        reads(HEAD + "`kind;", fault(1, AT));
        reads(HEAD + "kind{;", fault(1, AT + 4));
        reads(HEAD + "Kind;", fault(1, AT));
        reads(HEAD + "kinD;", fault(1, AT));
    }

    /** "NUMBERS (1 to 4 digits ...)"; a longer one is none "at its first sign". */
    private static void numbersOfFourDigits() {
        reads(HEAD + "0;", 0);
        reads(HEAD + "9;", 0);
        reads(HEAD + "0000;", 0);
        reads(HEAD + "9999;", 0);
        reads(HEAD + "00000;", fault(1, AT));
        reads(HEAD + "10000;", fault(1, AT));
        reads(HEAD + "1 + 99999;", fault(1, AT + 4));
        reads(HEAD + "4294967297;", fault(1, AT));
        reads(HEAD + Checks.times("1", 500) + ";", fault(1, AT));
        reads(HEAD + "/;", fault(1, AT));
        reads(HEAD + ":;", fault(1, AT));
        reads("rate 0001 when 1;", 0);
        reads("rate 00001 when 1;", fault(1, 5));
    }

    /** "(1 to 4 digits; a letter may stand right behind)". */
    private static void letterRightBehindANumber() {
        reads("rate 1when 1;", 0);
        reads("rate 0999when 9999and 1;", 0);
        reads("rate 12345when 1;", fault(1, 5));
        reads(HEAD + "1kind;", fault(1, AT + 1));
        reads(HEAD + "1x;", fault(1, AT + 1));
    }

    /** "the signs ( ) < = + - and the semicolon. All else ... is none." */
    private static void allElseIsNone() {
        String known = "()<=+-;";
        for (char sign = 33; sign <= 126; sign++) {
            boolean isLetter = sign >= 'a' && sign <= 'z';
            boolean isDigit = sign >= '0' && sign <= '9';
            if (known.indexOf(sign) < 0 && !isLetter && !isDigit) {
                reads(HEAD + sign + ";", fault(1, AT));
                reads(HEAD + "1" + sign + "1;", fault(1, AT + 1));
                reads(LINE + sign, fault(1, LINE.length()));
            }
        }
        reads(HEAD + "(1)<2;", 0);
        reads(HEAD + "(1)=2;", 0);
        reads(HEAD + "(1)+2-3;", 0);
        reads(HEAD + "1<=2;", fault(1, AT + 2));
        reads(HEAD + "1==2;", fault(1, AT + 2));
    }

    /** A text without a line is one, too. */
    private static void emptyText() {
        PanelHouse house = new PanelHouse();
        Checks.read(house, LINE);
        Checks.due("nothing", house.text(), 0);
        Checks.due("no line", house.count(5), 0);
        Checks.due("taken", house.count(7), 2);
        Checks.due("a blank", Checks.read(house, " "), 0);
        Checks.due("600 blanks", Checks.read(house, Checks.times(" \n", 300)), 0);
        Checks.due("taken, too", house.count(7), 4);
    }

    /** "TEXT: 16 lines at most". */
    private static void sixteenLines() {
        PanelHouse house = new PanelHouse();
        Checks.due("15 lines", Checks.read(house, Checks.times(LINE, 15)), 0);
        Checks.due("count of 15", house.count(5), 15);
        Checks.due("16 lines", Checks.read(house, Checks.times(LINE, 16)), 0);
        Checks.due("count of 16", house.count(5), 16);
        Checks.due("17 lines", Checks.read(house, Checks.times(LINE, 17)), fault(5, 16 * LINE.length()));
        Checks.due("count of the 16 still", house.count(5), 16);
        Checks.due("1 line", Checks.read(house, LINE), 0);
        Checks.due("count of 1", house.count(5), 1);
    }

    /** "5 a 17th line (at its first token)". */
    private static void seventeenthLineAtItsFirstToken() {
        String sixteen = Checks.times(LINE, 16);
        int end = sixteen.length();
        reads(sixteen + " \n ", 0);
        reads(sixteen + "rate", fault(5, end));
        reads(sixteen + " \n rate", fault(5, end + 3));
        reads(sixteen + "rate 1000 when *;", fault(5, end));
        reads(sixteen + Checks.times(LINE, 10), fault(5, end));
        reads(Checks.times(LINE, 15) + "rate 1 when *;rate", fault(1, 15 * LINE.length() + AT));
        reads(Checks.times(LINE, 15) + "rate 1000 when 1;rate", fault(4, 15 * LINE.length() + 5));
    }

    /** "The first N is 0 to 999."; "4 a rate above 999". Other Ns may be above it. */
    private static void rateUpTo999() {
        reads("rate 0 when 1;", 0);
        reads("rate 999 when 1;", 0);
        reads("rate 0999 when 1;", 0);
        reads("rate 1000 when 1;", fault(4, 5));
        reads("rate 9999 when 1;", fault(4, 5));
        reads("rate 10000 when 1;", fault(1, 5));
        reads(HEAD + "1000;", 0);
        reads(LINE + "rate 1000 when 1;", fault(4, LINE.length() + 5));
    }

    /** "E: TEST { and TEST }. TEST: SUM [ < SUM or = SUM ]. SUM: PART { + or - PART }. PART: ...". */
    private static void testsSumsAndParts() {
        reads(HEAD + "1 < 2;", 0);
        reads(HEAD + "1 < 2 < 3;", fault(1, AT + 6));
        reads(HEAD + "1 = 2 = 3;", fault(1, AT + 6));
        reads(HEAD + "1 < 2 = 3;", fault(1, AT + 6));
        reads(HEAD + "(1 < 2) < 3;", 0);
        reads(HEAD + "1 < 2 and 3 < 4 and 5 = 6;", 0);
        reads(HEAD + "1" + Checks.times(" and 1", 90) + ";", 0);
        reads(HEAD + "1" + Checks.times("+1-1", 140) + ";", 0);
        reads(HEAD + ";", fault(1, AT));
        reads(HEAD + "();", fault(1, AT + 1));
        reads(HEAD + "1 2;", fault(1, AT + 2));
        reads(HEAD + "kind kind;", fault(1, AT + 5));
        reads(HEAD + "-1;", fault(1, AT));
        reads(HEAD + "1+;", fault(1, AT + 2));
        reads(HEAD + "1+-1;", fault(1, AT + 2));
        reads(HEAD + "1<;", fault(1, AT + 2));
        reads(HEAD + "1 and;", fault(1, AT + 5));
        reads(HEAD + "and 1;", fault(1, AT));
        reads(HEAD + "rate;", fault(1, AT));
        reads(HEAD + "when;", fault(1, AT));
        reads(HEAD + "1);", fault(1, AT + 1));
        reads(HEAD + "(1;", fault(1, AT + 2));
        reads("rate 1 1;", fault(1, 7));
        reads("rate kind when 1;", fault(1, 5));
        reads("rate when 1;", fault(1, 5));
        reads("rate;", fault(1, 4));
        reads(LINE + ";", fault(1, LINE.length()));
    }

    /** "5 within one another"; "5 ... a PART within 5 others". */
    private static void fiveWithinOneAnother() {
        String[] parts = {"1", "9999", "kind", "thousands", "printed", "month", "weeks"};
        for (String part : parts) {
            reads(HEAD + "((((" + part + "))));", 0);
            reads(HEAD + "(((((" + part + ")))));", fault(5, AT + 5));
        }
        reads(HEAD + "((((((1))))));", fault(5, AT + 5));
        reads(HEAD + "(((( 1 + (2) ))));", fault(5, AT + 10));
        reads(HEAD + "((((1)))) and ((((1)))) < ((((1)))) + ((((1))));", 0);
        reads(HEAD + "((((1)))) and ((((1)))) < ((((1)))) + (((((1)))));", fault(5, AT + 43));
        reads(HEAD + "(1+(2+(3+(4+5-6)-7)-8)-9);" + HEAD + "((((1))));", 0);
        reads(HEAD + Checks.times("(", 580), fault(5, AT + 5));
    }

    /** "of a token, the end being one at the text's length". */
    private static void theEndIsAToken() {
        String[] starts = {"rate", "rate 1", "rate 1 when", "rate 1 when 1", "rate 1 when 1 <", "rate 1 when 1 = 1",
            "rate 1 when 1 +", "rate 1 when 1 and", "rate 1 when (", "rate 1 when (1", "rate 1 when (1)"};
        for (String start : starts) {
            reads(start, fault(1, start.length()));
            reads(start + "  ", fault(1, start.length() + 2));
            reads("\n" + start + "\n", fault(1, start.length() + 2));
            reads(LINE + start, fault(1, LINE.length() + start.length()));
        }
    }

    /** "of the first token from the left that is wrong": whatever stands behind it. */
    private static void firstFromTheLeft() {
        reads("rate 1000 when *;", fault(4, 5));
        reads("rate * when 1; rate 1000 when 1;", fault(1, 5));
        reads(HEAD + "(((((1))))) *", fault(5, AT + 5));
        reads(HEAD + "* (((((1)))));", fault(1, AT));
        reads(HEAD + "1 1 12345;", fault(1, AT + 2));
        reads(HEAD + "(((((1))))); rate 1000 when 1;", fault(5, AT + 5));
        reads("rate 1000 when (((((1)))));", fault(4, 5));
    }

    /** "that is wrong the least": what can't stand there is 1, also where a 4 or a 5 would come. */
    private static void theLeastOfOneToken() {
        String sixteen = Checks.times(LINE, 16);
        String[] wrong = {"*", "when", "and", ";", ")", "<", "12345", "thousandss", "x"};
        for (String token : wrong) {
            reads(sixteen + token, fault(1, sixteen.length()));
            reads(HEAD + "(((((" + token, fault(1, AT + 5));
        }
        reads(sixteen + "1", fault(1, sixteen.length()));
        reads(HEAD + "(((((", fault(1, AT + 5));
        reads("rate 12345 when 1;", fault(1, 5));
    }

    /** "kind + 16 * the place (from 0)": from the first sign of a tape to behind its 600th. */
    private static void farthestPlace() {
        reads("*", fault(1, 0));
        reads(blanks(599) + "*", fault(1, 599));
        reads(blanks(596) + "rate", fault(1, 600));
        reads(blanks(591) + "rate 1000", fault(4, 596));
        reads(blanks(595) + "rate ", fault(1, 600));
        String lines = Checks.times(LINE, 16);
        reads(lines + blanks(596 - lines.length()) + "rate", fault(5, 596));
    }

    /** Promise 14: a fault is told, and the text there was is the text; only those that were taken are counted. */
    private static void faultyTextIsNotTaken() {
        PanelHouse house = new PanelHouse();
        Checks.due("faulty ahead of any", Checks.read(house, LINE + "*"), fault(1, LINE.length()));
        Checks.due("no line", house.count(5), 0);
        Checks.due("none taken", house.count(7), 0);
        Checks.read(house, LINE + LINE);
        String[] faulty = {"*", "rate 1000", HEAD + "(((((1", Checks.times(LINE, 17)};
        for (String text : faulty) {
            Checks.due("faulty " + text, Checks.read(house, text) > 0, true);
            Checks.due("two lines", house.count(5), 2);
            Checks.due("one taken", house.count(7), 1);
        }
    }

    /** "20 texts at most"; promise 14: "-1: 20 were taken (the TAPE is empty then, too)". */
    private static void twentyTexts() {
        PanelHouse house = new PanelHouse();
        for (int i = 1; i <= 20; i++) {
            Checks.due("faulty", Checks.read(house, "*"), fault(1, 0));
            Checks.due("text " + i, Checks.read(house, i == 20 ? LINE + LINE : LINE), 0);
            Checks.due("taken", house.count(7), i);
        }
        Checks.due("a 21st", Checks.read(house, LINE), -1);
        Checks.due("its tape", house.count(6), 0);
        Checks.due("the 20th stays", house.count(5), 2);
        Checks.due("twenty", house.count(7), 20);
        Checks.due("a faulty one", Checks.read(house, "*"), -1);
        Checks.due("its tape, too", house.count(6), 0);
        Checks.due("an empty one", house.text(), -1);
    }
}
