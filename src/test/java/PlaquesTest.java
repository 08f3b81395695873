/** Promises 20 (hang), 21 (line), 22 (wide), 23 (down), 25 (doubtful), 26 (count). */
public final class PlaquesTest {
    public static void main(String[] args) {
        hangRange();
        wordsThatAreNone();
        widths();
        fitting();
        leastRow();
        manyWords();
        yearsInWords();
        yearsOfOne();
        yearsAtTheEnd();
        yearsComeFirst();
        taking();
        doubts();
        counts();
        Check.end();
    }

    /** The desk of AskingsTest, with an asking in 1700 that is granted. */
    private static HereLived granted() {
        HereLived x = AskingsTest.desk();
        x.ask(0, 0, 1700);
        x.vote(0, 9, 0);
        Check.due("decide", x.decide(0), 2);
        return x;
    }

    private static void hangs(String text, int width, int lines, int answer) {
        HereLived x = granted();
        Check.tell(x, text);
        Check.due("hang [" + text + "] in " + width + ", " + lines, x.hang(0, width, lines), answer);
        Check.due("the tape is empty", x.count(5), 0);
        Check.due("its state", x.about(0, 3), answer > 0 ? 3 : 2);
        Check.due("its lines", x.about(0, 7), answer > 0 ? answer : -1);
        Check.due("plaques", x.count(4), answer > 0 ? 1 : 0);
        Check.due("line(0, 0)", Math.min(x.line(0, 0), 1), answer > 0 ? 1 : -2);
    }

    /** The rows that are due: words, width, words, width, .. */
    private static void fitted(String text, int width, int lines, int... rows) {
        HereLived x = granted();
        Check.tell(x, text);
        Check.due("hang [" + text + "] in " + width + ", " + lines, x.hang(0, width, lines), rows.length / 2);
        for (int i = 0; i < rows.length / 2; i++) {
            Check.due("line " + i + " of [" + text + "] in " + width, x.line(0, i), rows[2 * i]);
            Check.due("wide " + i + " of [" + text + "] in " + width, x.wide(0, i), rows[2 * i + 1]);
        }
        Check.due("no line behind", x.line(0, rows.length / 2), -1);
        Check.due("no width behind", x.wide(0, rows.length / 2), -1);
        Check.due("no line ahead", x.line(0, -1), -1);
        Check.due("no width ahead", x.wide(0, -1), -1);
    }

    private static void hangRange() {
        HereLived x = granted();
        x.ask(0, 0, 1700);
        int[][] wrong = {{2, 50, 4}, {-1, 50, 4}, {0, 0, 4}, {0, 401, 4}, {0, 50, 0}, {0, 50, 9}, {0, -1, 4},
            {0, 50, Integer.MIN_VALUE}, {0, Integer.MAX_VALUE, 4}};
        for (int[] w : wrong) {
            Check.tell(x, "Here");
            Check.due("hang, RANGE", x.hang(w[0], w[1], w[2]), -2);
            Check.due("the tape is empty", x.count(5), 0);
        }
        Check.tell(x, "Here");
        Check.due("it is open", x.hang(1, 50, 4), -4);
        Check.due("the tape is empty", x.count(5), 0);
        Check.tell(x, "Here");
        Check.due("RANGE ahead of STATE", x.hang(1, 50, 9), -2);
        Check.due("STATE ahead of NONE", x.hang(1, 50, 4), -4);
        Check.tell(x, "Here");
        Check.due("hang", x.hang(0, 50, 4), 1);
        Check.tell(x, "Here");
        Check.due("it hangs", x.hang(0, 50, 4), -4);
        Check.due("line of none", x.line(2, 0), -2);
        Check.due("line of an open one", x.line(1, 0), -2);
        Check.due("line of -1", x.line(-1, 0), -2);
        Check.due("wide of none", x.wide(2, 0), -2);
        Check.due("wide of an open one", x.wide(1, 0), -2);
        Check.due("wide of -1", x.wide(-1, 0), -2);
        Check.due("line of a granted one", granted().line(0, 0), -2);
    }

    private static void wordsThatAreNone() {
        hangs("", 400, 8, -1);
        hangs(" \n \n", 400, 8, -1);
        hangs("a\tb", 400, 8, -1);
        hangs("a\u001f", 400, 8, -1);
        hangs("a\u007f", 400, 8, -1);
        hangs("\u00e9", 400, 8, -1);
        hangs("\u0000", 400, 8, -1);
        hangs("!~", 400, 8, 1);
        hangs("i".repeat(24), 400, 8, 1);
        hangs("i".repeat(25), 400, 8, -1);
        hangs("i".repeat(24) + "\n" + "i".repeat(24), 400, 8, 1);
        hangs("i ".repeat(40), 400, 8, 1);
        hangs("i ".repeat(41), 400, 8, -1);
        hangs("i ".repeat(40) + "\n\n ", 400, 8, 1);
        hangs("  \n Here \n", 400, 8, 1);
    }

    private static void widths() {
        for (int sign = 33; sign <= 126; sign++) {
            int due = sign >= 'A' && sign <= 'Z' ? 5 : sign >= 'a' && sign <= 'z' || sign >= '0' && sign <= '9' ? 4 : 3;
            if ("ilj.,'!".indexOf(sign) >= 0) {
                due = 2;
            } else if ("mwMW".indexOf(sign) >= 0) {
                due = 6;
            }
            fitted("" + (char) sign, 400, 1, 1, due);
        }
        fitted("Here lived\nMimi", 400, 8, 3, 17 + 2 + 16 + 2 + 16);
        fitted("a    \n  b", 10, 1, 2, 10);
        hangs("abcd", 16, 1, 1);
        hangs("abcd", 15, 1, -3);
        hangs("a b", 9, 1, -3);
        hangs("a b", 10, 1, 1);
        hangs("i", 1, 8, -3);
    }

    private static void fitting() {
        // 12 + 2 + 4 | 8 lacks 0 and 0; the greedy way is the best here
        fitted("aaa b cc", 18, 2, 2, 18, 1, 8);
        // greedy would leave the second line lacking 12 squared: 0 + 144 against 36 + 4 = 40
        fitted("aaa b cc dddd", 18, 3, 1, 12, 2, 14, 1, 16);
        // with two lines alone there is one way less
        hangs("aaa b cc dddd", 18, 2, -3);
        fitted("aaa b cc dddd", 26, 2, 2, 18, 2, 26);
        // the last line lacks nothing whatever its width
        fitted("aaaa b", 17, 8, 1, 16, 1, 4);
        // a word each
        fitted("a a a a a a a a", 4, 8, 1, 4, 1, 4, 1, 4, 1, 4, 1, 4, 1, 4, 1, 4, 1, 4);
        hangs("a a a a a a a a a", 4, 8, -3);
        // all in one is the least, with room for more
        fitted("a a a a", 22, 8, 4, 22);
        fitted("a a a a", 21, 8, 3, 16, 1, 4);
    }

    /** Equal sums: the first line with the fewest words, then the next. */
    private static void leastRow() {
        // 1 2 1 lacks 8 and 2, 2 1 1 lacks 2 and 8
        fitted("a a a bbb", 12, 3, 1, 4, 2, 10, 1, 12);
        // 1 2 2 1, 2 1 2 1 and 2 2 1 1 lack the same too
        fitted("a a a a a bbb", 12, 4, 1, 4, 2, 10, 2, 10, 1, 12);
        // behind a line of its own the same choice comes again
        fitted("ccc a a a bbb", 12, 4, 1, 12, 1, 4, 2, 10, 1, 12);
        // no equal sums: 1 3 1 lacks 6 and 0, 1 2 2 lacks 6 and 4
        fitted("aaa aa b i i", 18, 8, 1, 12, 3, 18, 1, 2);
        // full lines lack nothing
        fitted("aaaa aaaa i i i", 16, 8, 1, 16, 1, 16, 3, 10);
    }

    private static void manyWords() {
        StringBuilder text = new StringBuilder();
        for (int w = 0; w < 40; w++) {
            text.append("i ");
        }
        // a line of n words is 4n - 2 wide; five words fill 18
        fitted(text.toString(), 18, 8, 5, 18, 5, 18, 5, 18, 5, 18, 5, 18, 5, 18, 5, 18, 5, 18);
        hangs(text.toString(), 17, 8, -3);
        hangs(text.toString(), 18, 7, -3);
        fitted(text.toString(), 158, 8, 40, 158);
        fitted(text.toString(), 157, 8, 39, 154, 1, 2);
    }

    private static void yearsInWords() {
        hangs("1600", 400, 8, 1);
        hangs("1650", 400, 8, 1);
        hangs("1620", 400, 8, 1);
        hangs("1629", 400, 8, 1);
        hangs("1619", 400, 8, -5);
        hangs("1630", 400, 8, -5);
        hangs("0000", 400, 8, -5);
        hangs("9999", 400, 8, -5);
        hangs("999", 400, 8, 1);
        hangs("99999", 400, 8, 1);
        hangs("16191", 400, 8, 1);
        hangs("161 9", 400, 8, 1);
        hangs("11619 1620", 400, 8, 1);
        hangs("(*1600-1650)", 400, 8, 1);
        hangs("(*1600-1651)", 400, 8, -5);
        hangs("a1619b", 400, 8, -5);
        hangs("1600 1625 1619", 400, 8, -5);
        hangs("1600 Here 1625", 400, 8, 1);
        hangs("99999999991619", 400, 8, 1);
        hangs("1600,12345,1651", 400, 8, -5);
    }

    /** Years of birth and death are the asked one's own; those lived there are of all that are ONE. */
    private static void yearsOfOne() {
        HereLived x = granted();
        x.person(1601, 1660, 0);
        x.paper(1, 0, 0, 1, 1640, 1640);
        x.join(1, 0);
        Check.tell(x, "1601");
        Check.due("birth of the other", x.hang(0, 400, 8), -5);
        Check.tell(x, "1660");
        Check.due("death of the other", x.hang(0, 400, 8), -5);
        x.falsify(0, true);
        Check.tell(x, "1625");
        Check.due("no longer sure", x.hang(0, 400, 8), -5);
        Check.tell(x, "1640");
        Check.due("by the other's paper", x.hang(0, 400, 8), 1);
    }

    /** What stood on the tape behind its end is gone, and a full tape ends as any other. */
    private static void yearsAtTheEnd() {
        HereLived x = granted();
        x.feed(Check.four("1619", 0), Check.four("1111", 0), 0, 0, 0);
        x.end(4);
        Check.due("cut behind four digits", x.hang(0, 400, 8), -5);
        x.feed(Check.four("1619", 0), Check.four("1111", 0), 0, 0, 0);
        x.end(3);
        Check.due("cut behind three", x.hang(0, 400, 8), 1);
        hangs(" ".repeat(596) + "1619", 400, 8, -5);
        hangs(" ".repeat(596) + "1620", 400, 8, 1);
    }

    private static void yearsComeFirst() {
        hangs("Here 1619", 5, 1, -5);
        hangs("Here 1620", 5, 1, -3);
        hangs("1619 " + "i".repeat(25), 400, 8, -1);
        hangs("1619 \u0007", 400, 8, -1);
    }

    private static HereLived hanging(String rules) {
        HereLived x = granted();
        AskingsTest.rules(x, rules);
        Check.tell(x, "Here lived");
        Check.due("hang", x.hang(0, 20, 2), 2);
        return x;
    }

    private static void taking() {
        HereLived x = hanging("");
        x.ask(0, 0, 1700);
        Check.due("asking 2", x.down(2, 1, 0), -2);
        Check.due("asking -1", x.down(-1, 1, 0), -2);
        Check.due("yes -1", x.down(0, -1, 0), -2);
        Check.due("yes 100", x.down(0, 100, 0), -2);
        Check.due("no -1", x.down(0, 1, -1), -2);
        Check.due("no 100", x.down(0, 1, 100), -2);
        Check.due("an open one", x.down(1, 1, 0), -4);
        Check.due("RANGE ahead of STATE", x.down(1, 100, 0), -2);
        Check.due("no votes", x.down(0, 0, 0), 3);
        Check.due("65 of 100", x.down(0, 65, 35), 3);
        Check.due("it hangs", x.about(0, 3), 3);
        Check.due("votes of the asking stay", x.about(0, 4), 9);
        Check.due("66 of 100", x.down(0, 66, 34), 4);
        Check.due("taken down", x.about(0, 3), 4);
        Check.due("again", x.down(0, 99, 0), -4);
        Check.due("votes of the asking stay", x.about(0, 4), 9);
        Check.due("its lines stay", x.about(0, 7), 2);
        Check.due("line 1", x.line(0, 1), 1);
        Check.due("wide 1", x.wide(0, 1), 16);
        Check.due("line 2", x.line(0, 2), -1);
        Check.due("wide 2", x.wide(0, 2), -1);
        Check.tell(x, "Here");
        Check.due("it isn't granted any more", x.hang(0, 400, 1), -4);
        Check.due("down 0, no votes", hanging("down 0;").down(0, 0, 0), 3);
        Check.due("down 0, one against", hanging("down 0;").down(0, 0, 1), 4);
        Check.due("down 100, one against", hanging("down 100;").down(0, 99, 1), 3);
        Check.due("down 100, all", hanging("down 100;").down(0, 1, 0), 4);
        Check.due("down 67, 2 of 3", hanging("down 67;").down(0, 2, 1), 3);
    }

    private static void doubts() {
        HereLived x = AskingsTest.desk();
        x.site(1500, 1500, 0, 2);
        x.person(1600, 1660, 0);
        x.paper(1, 1, 0, 2, 1640, 1640);
        AskingsTest.rules(x, "theme 0 2;");
        int a = AskingsTest.hung(x, 0, 0, 1690);
        int b = AskingsTest.hung(x, 1, 1, 1700);
        Check.due("16, 32, 64 are none", x.doubtful(), 0);
        Check.due("but speak", x.against(a), 112);
        x.ask(0, 0, 1700);
        x.falsify(0, true);
        Check.due("a paper is false", x.doubtful(), 1);
        x.falsify(1, true);
        Check.due("both are", x.doubtful(), 2);
        x.down(b, 9, 0);
        Check.due("one hangs", x.doubtful(), 1);
        x.falsify(0, false);
        Check.due("true again", x.doubtful(), 0);
        AskingsTest.rules(x, "dead 41;");
        Check.due("by its own year", x.doubtful(), 1);
        AskingsTest.rules(x, "dead 40;");
        Check.due("by its own year", x.doubtful(), 0);
        AskingsTest.rules(x, "sources 2;");
        Check.due("too few sources", x.doubtful(), 1);
        AskingsTest.rules(x, "lived 11;");
        Check.due("too few years", x.doubtful(), 1);
        AskingsTest.rules(x, "span 60;");
        Check.due("too long ago", x.doubtful(), 1);
        AskingsTest.rules(x, "span 61;");
        Check.due("not too long ago", x.doubtful(), 0);
        x.site(1500, 1600, 0, 1);
        Check.due("it may have been another site", x.doubtful(), 1);
        gone();
    }

    private static void gone() {
        HereLived x = AskingsTest.desk();
        AskingsTest.hung(x, 0, 0, 1700);
        x.renumber(0, 1701, 1701, 0, 3);
        Check.due("renumbered behind its year", x.doubtful(), 0);
        HereLived y = AskingsTest.desk();
        AskingsTest.hung(y, 0, 0, 1700);
        y.renumber(0, 1690, 1701, 0, 0);
        Check.due("may be gone in its year", y.doubtful(), 1);
    }

    private static void counts() {
        HereLived x = hanging("");
        x.person(1700, 1710, 1);
        x.person(1700, 1710, 1);
        x.ask(1, 0, 1800);
        x.renumber(0, 1900, 1900, 0, 0);
        x.feed(0, 0, 0, 0, 0);
        int[] due = {1, 3, 1, 2, 1, 20, -1, -1, -1, -1, 2, -1};
        for (int what = 0; what < due.length; what++) {
            Check.due("count(" + what + ")", x.count(what), due[what]);
        }
        Check.due("count(-1)", x.count(-1), -1);
        Check.due("count(MIN)", x.count(Integer.MIN_VALUE), -1);
        Check.due("count(MAX)", x.count(Integer.MAX_VALUE), -1);
        x.down(0, 1, 0);
        Check.due("count(4)", x.count(4), 0);
    }
}
