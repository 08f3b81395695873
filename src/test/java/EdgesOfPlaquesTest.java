/** Promises 20 to 23, 25, 26, sentence by sentence: each that names an edge, with what is due at it and beside it. */
public final class EdgesOfPlaquesTest {
    private static final int MIN = Integer.MIN_VALUE;
    private static final int MAX = Integer.MAX_VALUE;
    private static final int[] NO_ASKING = {-1, 5, 39, 40, MIN, MAX};

    public static void main(String[] args) {
        bytesOfWords();
        blanksBetween();
        atMostFortyOfTwentyFour();
        widths();
        blankOfALine();
        noneIsWider();
        numberOfLines();
        leastSum();
        butTheLast();
        leastRow();
        justFourDigits();
        birthOrDeath();
        livedThere();
        widthAndLines();
        hangRefused();
        hangInEveryState();
        noWords();
        dontFit();
        yearsFirst();
        lineOfEveryState();
        noSuchLine();
        widthOfLines();
        downRefused();
        downInEveryState();
        downOrMore();
        oneVoteAtLeast();
        doubtfulBits();
        doubtfulByItsYear();
        counts();
        countNone();
        fiveHundredAndTwelve();
        Check.end();
    }

    private static HereLived granted() {
        HereLived x = AskingsTest.desk();
        x.ask(0, 0, 1700);
        x.vote(0, 9, 0);
        Check.due("decide", x.decide(0), 2);
        return x;
    }

    /** What hang answers to a text; a refused one stays GRANTED without a plaque. */
    private static void hangs(String text, int width, int lines, int due) {
        HereLived x = granted();
        Check.tell(x, text);
        Check.due("hang [" + text + "] in " + width + ", " + lines, x.hang(0, width, lines), due);
        Check.due("its state", x.about(0, 3), due > 0 ? 3 : 2);
        Check.due("its lines", x.about(0, 7), due > 0 ? due : -1);
        Check.due("plaques that hang", x.count(4), due > 0 ? 1 : 0);
        Check.due("bytes", x.count(5), 0);
        if (due < 0) {
            Check.due("line 0", x.line(0, 0), -2);
            Check.due("wide 0", x.wide(0, 0), -2);
            Check.tell(x, "Here");
            Check.due("it may hang yet", x.hang(0, 400, 8), 1);
        }
    }

    /** The words of each line. */
    private static void row(String text, int width, int lines, int... words) {
        HereLived x = granted();
        Check.tell(x, text);
        Check.due("hang [" + text + "] in " + width + ", " + lines, x.hang(0, width, lines), words.length);
        for (int i = 0; i < words.length; i++) {
            Check.due("line " + i + " of [" + text + "] in " + width + ", " + lines, x.line(0, i), words[i]);
        }
        Check.due("no line behind", x.line(0, words.length), -1);
    }

    private static void bytesOfWords() {
        Check.says("bytes 33 .. 126 with blanks between them (any number of 32, 10)");
        for (int sign = 0; sign < 256; sign++) {
            boolean blank = sign == 32 || sign == 10;
            int due = blank ? -1 : sign >= 33 && sign <= 126 ? 1 : -1;
            hangs(String.valueOf((char) sign), 400, 1, due);
            hangs("a" + (char) sign, 400, 1, blank ? 1 : due);
        }
    }

    private static void blanksBetween() {
        Check.says("with blanks between them (any number of 32, 10)");
        row("a b", 10, 1, 2);
        row("a\nb", 10, 1, 2);
        row("a  b", 10, 1, 2);
        row("a" + " \n".repeat(299) + "b", 10, 1, 2);
        row("ab", 8, 1, 1);
        row("a\n\n\nb\n", 10, 1, 2);
        row(" a b", 10, 1, 2);
        row(" ".repeat(599) + "a", 4, 1, 1);
        row("a" + "\n".repeat(599), 4, 1, 1);
    }

    private static void atMostFortyOfTwentyFour() {
        Check.says("at most 40 WORDS of 24 bytes each");
        hangs("i".repeat(24), 48, 1, 1);
        hangs("i".repeat(25), 400, 8, -1);
        hangs("i".repeat(600), 400, 8, -1);
        hangs("a " + "i".repeat(25), 400, 8, -1);
        hangs("i".repeat(25) + " a", 400, 8, -1);
        hangs("i".repeat(24) + " " + "i".repeat(24), 400, 8, 1);
        hangs("i ".repeat(39) + "i", 400, 8, 1);
        hangs("i ".repeat(40) + "i", 400, 8, -1);
        hangs("i ".repeat(300), 400, 8, -1);
        hangs("iiiiiiiiiiiiii ".repeat(39) + "i".repeat(14), 400, 8, 4);
        hangs("iiiiiiiiiiiiii ".repeat(40), 400, 8, 4);
    }

    private static void widths() {
        Check.says("Widths: i l j . , ' ! 2; m w M W 6; other small letters 4; digits 4; capital letters 5; all others 3");
        String two = "ilj.,'!";
        String six = "mwMW";
        for (int sign = 33; sign <= 126; sign++) {
            char c = (char) sign;
            int due = two.indexOf(c) >= 0 ? 2 : six.indexOf(c) >= 0 ? 6 : c >= 'a' && c <= 'z' ? 4
                : c >= '0' && c <= '9' ? 4 : c >= 'A' && c <= 'Z' ? 5 : 3;
            hangs("" + c, due, 1, 1);
            hangs("" + c, due - 1, 1, -3);
            HereLived x = granted();
            Check.tell(x, "" + c + c + c);
            x.hang(0, 400, 1);
            Check.due("wide of three " + c, x.wide(0, 0), 3 * due);
        }
    }

    private static void blankOfALine() {
        Check.says("a blank between two WORDS of a line 2");
        hangs("i i", 6, 1, 1);
        hangs("i i", 5, 1, -3);
        hangs("i      i", 6, 1, 1);
        hangs("i i i", 10, 1, 1);
        hangs("i i i", 9, 1, -3);
        hangs("i ", 2, 1, 1);
        hangs(" i", 2, 1, 1);
        row("i i", 5, 2, 1, 1);
    }

    private static void noneIsWider() {
        Check.says("WORDS one behind the other in lines none of which is wider");
        row("aa bb", 18, 8, 2);
        row("aa bb", 17, 8, 1, 1);
        hangs("aa bb", 7, 8, -3);
        hangs("aa b", 7, 8, -3);
        hangs("a bb", 7, 8, -3);
        row("a bb a", 8, 8, 1, 1, 1);
        row("m".repeat(24), 144, 1, 1);
        hangs("m".repeat(24), 143, 8, -3);
        hangs("i", 1, 8, -3);
        hangs("i", 2, 8, 1);
    }

    private static void numberOfLines() {
        Check.says("FITTED in a width and a number of lines (1 .. 8)");
        for (int n = 1; n <= 8; n++) {
            hangs("a ".repeat(n), 4, n, n);
            hangs("a ".repeat(n + 1), 4, n, -3);
            hangs("a ".repeat(n), 5, 8, n);
        }
        row("i ".repeat(40), 18, 8, 5, 5, 5, 5, 5, 5, 5, 5);
        hangs("i ".repeat(40), 18, 7, -3);
        hangs("i ".repeat(40), 17, 8, -3);
        row("i ".repeat(40), 400, 8, 40);
    }

    private static void leastSum() {
        Check.says("the least sum of squares of what each line but the last lacks to the width");
        // 1 2 1 lacks 6 and 4, 52; 2 1 1 lacks 0 and 10, 100
        row("aaa b cc dddd", 18, 3, 1, 2, 1);
        // in two lines there is one way: 2 2
        row("aaa b cc dddd", 26, 2, 2, 2);
        // more lines would lack more: 2 2 lacks 8, 2 1 1 lacks 8 and 18
        row("aaa b cc dddd", 26, 8, 2, 2);
        // squares: 2 1 1 lacks 4 and 6 (52), 1 2 1 lacks 10 and 0 (100), which is the same without squares
        row("a a aa bbb", 14, 3, 2, 1, 1);
        row("aa a a bbb", 14, 3, 1, 2, 1);
        row("a a a a", 22, 8, 4);
        row("a a a a", 21, 8, 3, 1);
        row("aaa aaa a", 12, 8, 1, 1, 1);
    }

    private static void butTheLast() {
        Check.says("what each line but the last lacks to the width");
        row("aaaa i", 16, 8, 1, 1);
        row("aaaa i i i", 16, 8, 1, 3);
        row("aaaa aaaa i", 16, 8, 1, 1, 1);
        row("i", 400, 8, 1);
        row("i i", 400, 8, 2);
        // one line alone lacks nothing, though two would lack less to their widths
        row("aaaa aaaa", 34, 8, 2);
        row("aaaa aaaa", 400, 8, 2);
    }

    private static void leastRow() {
        Check.says("of these the least row of how many WORDS lines have");
        // 1 2 1 and 2 1 1 both lack 2 and 8
        row("a a a bbb", 12, 3, 1, 2, 1);
        // 1 2 2 1, 2 1 2 1, 2 2 1 1
        row("a a a a a bbb", 12, 4, 1, 2, 2, 1);
        // the first line is full: the same choice behind it
        row("ccc a a a bbb", 12, 4, 1, 1, 2, 1);
        // no other row lacks as little as 2 2 2 and 2 2 2 1, though lesser rows would fit
        row("a a a a a a", 12, 8, 2, 2, 2);
        row("a a a a a a a", 12, 8, 2, 2, 2, 1);
        // a full line ahead
        row("aaaa a a i", 16, 8, 1, 3);
    }

    private static void justFourDigits() {
        Check.says("a WORD's runs of just four digits");
        hangs("161", 400, 1, 1);
        hangs("1619", 400, 1, -5);
        hangs("16191", 400, 1, 1);
        hangs("16191620", 400, 1, 1);
        hangs("1".repeat(24), 400, 1, 1);
        hangs("1619x", 400, 1, -5);
        hangs("x1619", 400, 1, -5);
        hangs("-1619-", 400, 1, -5);
        hangs("16 19", 400, 1, 1);
        hangs("1620-1619", 400, 1, -5);
        hangs("1619-1620", 400, 1, -5);
        hangs("1620-1629", 400, 1, 1);
        hangs("12345-1619", 400, 1, -5);
        hangs("1619 12345", 400, 1, -5);
        hangs("99999 12345", 400, 1, 1);
        hangs("1620\n1619", 400, 1, -5);
        hangs("1620 1621 1622 1623 1624 1625 1626 1627 1628 1630", 400, 8, -5);
        hangs("0000", 400, 1, -5);
        hangs("9999", 400, 1, -5);
        hangs("1499", 400, 1, -5);
        hangs("2101", 400, 1, -5);
        hangs("0160", 400, 1, -5);
        hangs("016001620", 400, 1, 1);
    }

    private static void birthOrDeath() {
        Check.says("each must be the year of birth or of death, or one in which they LIVED there SURELY");
        hangs("1599", 400, 1, -5);
        hangs("1600", 400, 1, 1);
        hangs("1601", 400, 1, -5);
        hangs("1649", 400, 1, -5);
        hangs("1650", 400, 1, 1);
        hangs("1651", 400, 1, -5);
        hangs("1700", 400, 1, -5);
        HereLived x = granted();
        x.person(1601, 1651, 0);
        x.join(0, 1);
        Check.tell(x, "1601");
        Check.due("birth of another with whom it is ONE", x.hang(0, 400, 1), -5);
        Check.tell(x, "1651");
        Check.due("death of another with whom it is ONE", x.hang(0, 400, 1), -5);
        Check.tell(x, "1600-1650");
        Check.due("its own", x.hang(0, 400, 1), 1);
    }

    private static void livedThere() {
        Check.says("or one in which they LIVED there SURELY");
        hangs("1619", 400, 1, -5);
        hangs("1620", 400, 1, 1);
        hangs("1629", 400, 1, 1);
        hangs("1630", 400, 1, -5);
        HereLived x = granted();
        x.site(1640, 1645, 0, 2);
        x.person(1601, 1651, 0);
        x.join(1, 0);
        x.paper(0, 0, 0, 2, 1646, 1646);
        x.paper(1, 0, 0, 1, 1500, 1500);
        x.paper(1, 0, 0, 1, 2100, 2100);
        Check.tell(x, "1646");
        Check.due("in another site", x.hang(0, 400, 1), -5);
        x.renumber(0, 1800, 1800, 0, 0);
        Check.tell(x, "2100");
        Check.due("it was gone by then", x.hang(0, 400, 1), -5);
        x.falsify(0, true);
        Check.tell(x, "1620");
        Check.due("the paper is false", x.hang(0, 400, 1), -5);
        Check.tell(x, "1500");
        Check.due("by a paper of another with whom it is ONE", x.hang(0, 400, 1), 1);
        HereLived y = granted();
        y.renumber(0, 1625, 1627, 0, 9);
        Check.tell(y, "1625");
        Check.due("possibly alone", y.hang(0, 400, 1), -5);
        Check.tell(y, "1624");
        Check.due("surely", y.hang(0, 400, 1), 1);
    }

    private static void widthAndLines() {
        Check.says("THE TAPE is the WORDS of a GRANTED ASKING, in a width (1 .. 400) and at most so many lines: how many lines it"
            + " has (it HANGS then).");
        hangs("i", 0, 1, -2);
        hangs("i", 1, 1, -3);
        hangs("i", 2, 1, 1);
        hangs("i", 400, 1, 1);
        hangs("i", 401, 1, -2);
        hangs("i", 2, 0, -2);
        hangs("i", 2, 8, 1);
        hangs("i", 2, 9, -2);
        String widest = "m".repeat(24) + " " + "m".repeat(24) + " " + "m".repeat(18);
        hangs(widest, 400, 1, 1);
        hangs(widest, 399, 1, -3);
        hangs(widest.substring(1) + "a-", 400, 1, -3);
        hangs(widest.substring(1) + "a-", 400, 2, 2);
        for (int n = 1; n <= 8; n++) {
            hangs("a b c", 4, n, n < 3 ? -3 : 3);
            hangs("a b c", 16, n, 1);
        }
    }

    private static void hangRefused() {
        Check.says("RANGE: no such ASKING, width, lines");
        HereLived x = EdgesOfAskingsTest.everyState();
        for (int a : NO_ASKING) {
            Check.tell(x, "Here");
            Check.due("hang(" + a + ", 400, 8)", x.hang(a, 400, 8), -2);
            x.end(0);
        }
        for (int width : new int[] {0, -1, 401, MIN, MAX}) {
            Check.tell(x, "Here");
            Check.due("width " + width, x.hang(2, width, 8), -2);
            x.end(0);
            Check.due("ahead of STATE", x.hang(0, width, 8), -2);
        }
        for (int lines : new int[] {0, -1, 9, MIN, MAX}) {
            Check.tell(x, "Here");
            Check.due("lines " + lines, x.hang(2, 400, lines), -2);
            x.end(0);
            Check.due("ahead of STATE", x.hang(1, 400, lines), -2);
        }
        Check.due("ahead of NONE", x.hang(2, 0, 8), -2);
        Check.due("it is granted yet", x.about(2, 3), 2);
        hangs("i", 1, 1, -3);
        hangs("i", 400, 1, 1);
        hangs("i", 400, 8, 1);
    }

    private static void hangInEveryState() {
        Check.says("STATE: it isn't GRANTED");
        HereLived x = EdgesOfAskingsTest.everyState();
        for (int a : new int[] {0, 1, 3, 4}) {
            Check.tell(x, "Here");
            Check.due("state " + a, x.hang(a, 400, 8), -4);
            Check.due("it stays", x.about(a, 3), a);
            Check.due("its lines stay", x.about(a, 7), a < 3 ? -1 : 2);
            Check.due("ahead of NONE", x.hang(a, 400, 8), -4);
            Check.tell(x, "1619");
            Check.due("ahead of -5", x.hang(a, 400, 8), -4);
            Check.tell(x, "Here");
            Check.due("ahead of FULL", x.hang(a, 1, 8), -4);
        }
        Check.tell(x, "Here");
        Check.due("state 2", x.hang(2, 400, 8), 1);
        Check.due("it hangs", x.about(2, 3), 3);
    }

    private static void noWords() {
        Check.says("NONE: no WORDS, a WORD of more than 24 bytes, more than 40 WORDS, or another byte");
        hangs("", 400, 8, -1);
        hangs(" ", 400, 8, -1);
        hangs("\n \n", 400, 8, -1);
        hangs(" ".repeat(600), 400, 8, -1);
        hangs("Here " + "a".repeat(25), 400, 8, -1);
        hangs("a ".repeat(41), 400, 8, -1);
        hangs("Here\u007f", 400, 8, -1);
        hangs("Here\r\nlived", 400, 8, -1);
        hangs("Here lived \u00e4", 400, 8, -1);
        hangs("Here" + "\u0000".repeat(16), 400, 8, -1);
        hangs("mmmm" + "\t", 1, 1, -1);
        hangs("a".repeat(25), 1, 1, -1);
    }

    private static void dontFit() {
        Check.says("FULL: they don't fit");
        hangs("Here", 16, 8, -3);
        hangs("Here", 17, 1, 1);
        hangs("Here lived", 34, 1, -3);
        hangs("Here lived", 35, 1, 1);
        hangs("Here lived", 17, 2, 2);
        hangs("Here lived", 17, 1, -3);
        hangs("m".repeat(24) + " a", 143, 8, -3);
        hangs("a " + "m".repeat(24), 143, 8, -3);
    }

    private static void yearsFirst() {
        Check.says("-5: a YEAR in them isn't sure (it is looked at first).");
        hangs("1619", 1, 1, -5);
        hangs("1620", 1, 1, -3);
        hangs("Here lived 1619", 17, 2, -5);
        hangs("Here lived 1620", 17, 2, -3);
        hangs("Here lived 1620", 17, 3, 3);
        hangs("1619 " + "a".repeat(25), 400, 8, -1);
    }

    private static void lineOfEveryState() {
        Check.says("Of a PLAQUE (its ASKING) that HANGS or was TAKEN DOWN, WORDS of line i; NONE: no such line; RANGE: no such"
            + " PLAQUE.");
        HereLived x = EdgesOfAskingsTest.everyState();
        for (int a = 0; a < 5; a++) {
            Check.due("line 0 of state " + a, x.line(a, 0), a < 3 ? -2 : 1);
            Check.due("line 1 of state " + a, x.line(a, 1), a < 3 ? -2 : 1);
            Check.due("line 2 of state " + a, x.line(a, 2), a < 3 ? -2 : -1);
            Check.due("line -1 of state " + a, x.line(a, -1), a < 3 ? -2 : -1);
        }
        for (int a : NO_ASKING) {
            Check.due("line(" + a + ", 0)", x.line(a, 0), -2);
            Check.due("line(" + a + ", -1)", x.line(a, -1), -2);
        }
    }

    private static void noSuchLine() {
        Check.says("NONE: no such line");
        HereLived x = EdgesOfAskingsTest.everyState();
        Check.tell(x, "a a a a a a a a");
        Check.due("hang in eight lines", x.hang(2, 4, 8), 8);
        for (int i : new int[] {-1, 8, 9, 16, MIN, MAX, -8, MAX / 8}) {
            Check.due("line(2, " + i + ")", x.line(2, i), -1);
            Check.due("wide(2, " + i + ")", x.wide(2, i), -1);
        }
        for (int i = 0; i < 8; i++) {
            Check.due("line(2, " + i + ")", x.line(2, i), 1);
            Check.due("wide(2, " + i + ")", x.wide(2, i), 4);
        }
        Check.due("the lines of the next plaque are its own", x.line(3, 0), 1);
        Check.due("the widths of the next plaque are its own", x.wide(3, 0), 17);
    }

    private static void widthOfLines() {
        Check.says("The width of line i of it; NONE; RANGE likewise.");
        HereLived x = EdgesOfAskingsTest.everyState();
        int[] due = {17, 16, -1};
        for (int i = 0; i < 3; i++) {
            Check.due("of the one that hangs, line " + i, x.wide(3, i), due[i]);
            Check.due("of the one taken down, line " + i, x.wide(4, i), due[i]);
            for (int a = 0; a < 3; a++) {
                Check.due("of state " + a, x.wide(a, i), -2);
            }
        }
        for (int a : NO_ASKING) {
            Check.due("wide(" + a + ", 0)", x.wide(a, 0), -2);
            Check.due("wide(" + a + ", -1)", x.wide(a, -1), -2);
        }
        Check.tell(x, "i ".repeat(40) + "\n");
        x.hang(2, 400, 8);
        Check.due("forty words", x.line(2, 0), 40);
        Check.due("their width with the blanks between", x.wide(2, 0), 158);
        HereLived y = granted();
        Check.tell(y, "m".repeat(24) + " " + "m".repeat(24) + " " + "m".repeat(18));
        Check.due("hang", y.hang(0, 400, 1), 1);
        Check.due("the widest", y.wide(0, 0), 400);
    }

    private static void downRefused() {
        Check.says("A PLAQUE that HANGS is voted on (0 .. 99 for taking it down, and against): 4 if it is TAKEN DOWN (of all"
            + " votes, one at least, down or more in a hundred), else 3; RANGE");
        HereLived x = EdgesOfAskingsTest.everyState();
        for (int a : NO_ASKING) {
            Check.due("down(" + a + ", 1, 0)", x.down(a, 1, 0), -2);
        }
        for (int votes : new int[] {-1, 100, MIN, MAX}) {
            Check.due("down(3, " + votes + ", 0)", x.down(3, votes, 0), -2);
            Check.due("down(3, 99, " + votes + ")", x.down(3, 99, votes), -2);
            Check.due("RANGE ahead of STATE", x.down(0, votes, 0), -2);
        }
        Check.due("it hangs", x.about(3, 3), 3);
        Check.due("0 and 99", x.down(3, 0, 99), 3);
        Check.due("99 and 99", x.down(3, 99, 99), 3);
        Check.due("99 and 0", x.down(3, 99, 0), 4);
    }

    private static void downInEveryState() {
        Check.says("STATE: it doesn't hang.");
        HereLived x = EdgesOfAskingsTest.everyState();
        for (int a : new int[] {0, 1, 2, 4}) {
            Check.due("state " + a, x.down(a, 99, 0), -4);
            Check.due("state " + a + ", no votes", x.down(a, 0, 0), -4);
            Check.due("it stays", x.about(a, 3), a);
        }
        Check.due("state 3", x.down(3, 99, 0), 4);
        Check.due("state 3 is state 4 now", x.down(3, 99, 0), -4);
    }

    private static int taken(int share, int yes, int no) {
        HereLived x = EdgesOfAskingsTest.everyState();
        AskingsTest.rules(x, "down " + share + ";");
        int answer = x.down(3, yes, no);
        Check.due("its state", x.about(3, 3), answer);
        Check.due("plaques that hang", x.count(4), answer == 4 ? 0 : 1);
        Check.due("votes of the asking stay", x.about(3, 4) * 100 + x.about(3, 5), 701);
        return answer;
    }

    private static void downOrMore() {
        Check.says("4 if it is TAKEN DOWN (of all votes, one at least, down or more in a hundred), else 3");
        Check.due("65 of 66 in a hundred", taken(66, 65, 35), 3);
        Check.due("66 of 66 in a hundred", taken(66, 66, 34), 4);
        Check.due("2 of 3 are more than 66", taken(66, 2, 1), 4);
        Check.due("2 of 3 are fewer than 67", taken(67, 2, 1), 3);
        Check.due("99 of 100 are fewer than 100", taken(100, 99, 1), 3);
        Check.due("all", taken(100, 1, 0), 4);
        Check.due("1 of 100 in a hundred", taken(1, 1, 99), 4);
        Check.due("none of 1 in a hundred", taken(1, 0, 99), 3);
        Check.due("99 of 198", taken(50, 99, 99), 4);
        Check.due("98 of 197", taken(50, 98, 99), 3);
    }

    private static void oneVoteAtLeast() {
        Check.says("of all votes, one at least, down or more in a hundred");
        Check.due("no votes, down 0", taken(0, 0, 0), 3);
        Check.due("one vote against, down 0", taken(0, 0, 1), 4);
        Check.due("one vote for, down 0", taken(0, 1, 0), 4);
        Check.due("no votes, down 100", taken(100, 0, 0), 3);
    }

    private static void doubtfulBits() {
        Check.says("How many PLAQUES hang against which something speaks now, but 16, 32, 64");
        Check.due("of none", new HereLived().doubtful(), 0);
        HereLived x = EdgesOfAskingsTest.everyState();
        Check.due("nothing but 16, 32", x.against(3), 48);
        Check.due("none", x.doubtful(), 0);
        String[] rules = {"theme 3 0;", "theme 3 1;", "dead 50;", "dead 51;", "lived 10;", "lived 11;", "sources 1;",
            "sources 2;", "span 71;", "span 70;"};
        int[] due = {0, 0, 0, 1, 0, 1, 0, 1, 0, 1};
        for (int i = 0; i < rules.length; i++) {
            AskingsTest.rules(x, rules[i]);
            Check.due("by [" + rules[i] + "]", x.doubtful(), due[i]);
        }
        AskingsTest.rules(x, "");
        x.renumber(3, 1700, 1701, 0, 0);
        Check.due("it may be gone", x.doubtful(), 1);
        x.down(3, 1, 0);
        Check.due("none hangs", x.doubtful(), 0);
    }

    /** Two hang, asked in 1690 and 1700; the second's asked person died in 1651. */
    private static void doubtfulByItsYear() {
        Check.says("(each by its ASKING's year)");
        HereLived x = AskingsTest.desk();
        x.site(1500, 1500, 0, 2);
        x.person(1600, 1651, 1);
        x.paper(1, 1, 0, 2, 1620, 1640);
        AskingsTest.hung(x, 0, 0, 1690);
        AskingsTest.hung(x, 1, 1, 1700);
        x.ask(0, 0, 2100);
        String[] rules = {"dead 40;", "dead 41;", "dead 49;", "dead 50;", "span 61;", "span 60;", "span 59;"};
        int[] due = {0, 1, 1, 2, 0, 1, 2};
        for (int i = 0; i < rules.length; i++) {
            AskingsTest.rules(x, rules[i]);
            Check.due("by [" + rules[i] + "]", x.doubtful(), due[i]);
        }
        AskingsTest.rules(x, "");
        x.renumber(0, 1691, 1691, 0, 0);
        Check.due("the first is gone a year later", x.doubtful(), 0);
        x.renumber(1, 1700, 1700, 0, 0);
        Check.due("the second is gone in that year", x.doubtful(), 1);
    }

    private static void counts() {
        Check.says("What 0: SITES, 1: PEOPLE, 2: PAPERS, 3: ASKINGS, 4: PLAQUES that hang, 5: bytes of THE TAPE; 10 + s:"
            + " NUMBERINGS of SITE s.");
        HereLived x = EdgesOfAskingsTest.everyState();
        x.person(1600, 1650, 0);
        x.paper(0, 0, 0, 1, 1600, 1600);
        x.paper(0, 0, 0, 1, 1600, 1600);
        x.falsify(0, true);
        x.renumber(4, 1700, 1700, 0, 0);
        x.feed(0, 0, 0, 0, 0);
        x.end(13);
        int[] due = {5, 6, 7, 5, 1, 13, -1, -1, -1, -1, 1, 1, 1, 1, 2, -1};
        for (int what = 0; what < due.length; what++) {
            Check.due("count(" + what + ")", x.count(what), due[what]);
        }
        Check.tell(x, "");
        Check.due("tape", x.count(5), 0);
        Check.tell(x, "Here");
        x.hang(2, 400, 8);
        Check.due("two hang", x.count(4), 2);
        x.down(3, 1, 0);
        x.down(2, 1, 0);
        Check.due("none hangs", x.count(4), 0);
        Check.due("askings stay", x.count(3), 5);
    }

    private static void countNone() {
        Check.says("NONE for others.");
        HereLived x = new HereLived();
        Check.due("there is no site", x.count(10), -1);
        for (int s = 0; s < 40; s++) {
            x.site(1600, 1600, 0, 1);
        }
        Check.due("the last site", x.count(49), 1);
        for (int what : new int[] {-1, -10, 6, 7, 8, 9, 50, 51, MIN, MIN + 10, MAX, MAX - 9}) {
            Check.due("count(" + what + ")", x.count(what), -1);
        }
    }

    /** Everything full but the tape, by the 490th call. */
    private static void fiveHundredAndTwelve() {
        Check.says("An object is used for at most 512 calls after it has been made");
        HereLived x = new HereLived();
        for (int s = 0; s < 40; s++) {
            Check.due("site " + s, x.site(1500, 1500, s % 10, 1 + s), s);
            for (int n = 2; n <= 8; n++) {
                Check.due("numbering " + n, x.renumber(s, 1500 + n, 1500 + n, s % 10, 1 + s), n);
            }
        }
        for (int p = 0; p < 30; p++) {
            Check.due("person " + p, x.person(1500, 1600, p % 8), p);
        }
        for (int k = 0; k < 100; k++) {
            Check.due("paper " + k, x.paper(k % 30, k % 6, k % 10, 1 + k % 40, 1500 + k, 1559 + k), k);
        }
        for (int a = 0; a < 40; a++) {
            Check.due("asking " + a, x.ask(a % 30, a, 1700 + a), a);
        }
        for (int n = 1; n <= 20; n++) {
            Check.due("feed " + n, x.feed(n, n, n, n, n), 20 * n);
        }
        Check.due("call 511", x.surely(9, 40, 2100), 39);
        Check.due("call 512", x.against(39), 0);
    }
}
