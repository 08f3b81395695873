/** Promises 13 to 15, sentence by sentence: each that names an edge, with what is due at it and beside it. */
public final class EdgesOfRulesTest {
    private static final int MIN = Integer.MIN_VALUE;
    private static final int MAX = Integer.MAX_VALUE;
    private static final String[] WORDS = {"dead", "lived", "sources", "span", "down"};
    private static final int[] PLACES = {0, 1, 2, 3, 7};
    private static final int[] MOST = {999, 999, 6, 999, 100};

    public static void main(String[] args) {
        tokens();
        blanks();
        digits();
        lines();
        untold();
        boundsOfOne();
        boundsOfTwo();
        placeOfFaults();
        theFirstCome();
        leastKind();
        syntaxEverywhere();
        everyByte();
        outOfBounds();
        twice();
        themesTwice();
        rulesCount();
        rulesStay();
        latestFault();
        placeWithout();
        otherFault();
        ruleOne();
        ruleThemes();
        otherRule();
        Check.end();
    }

    private static HereLived told(String text) {
        HereLived x = new HereLived();
        Check.tell(x, text);
        x.rules();
        return x;
    }

    private static void good(String text, int lines) {
        HereLived x = new HereLived();
        Check.tell(x, text);
        Check.due("rules of [" + text + "]", x.rules(), lines);
        Check.due("kind of [" + text + "]", x.fault(0), 0);
        Check.due("place of [" + text + "]", x.fault(1), -1);
    }

    private static void bad(String text, int kind, int place) {
        HereLived x = new HereLived();
        Check.tell(x, text);
        Check.due("rules of [" + text + "]", x.rules(), -1);
        Check.due("kind of [" + text + "]", x.fault(0), kind);
        Check.due("place of [" + text + "]", x.fault(1), place);
    }

    private static void tokens() {
        Check.says("TOKENS with any blanks (32, 10) between: WORDS (small letters, as many as there are), N (digits, as many"
            + " as there are, 4 at most), ; .");
        good("dead1;lived1;", 2);
        good("theme1 1;", 1);
        good("votes1\n1;", 1);
        bad("votes11;", 1, 7);
        bad("deadlived 1;", 1, 0);
        bad("de ad 1;", 1, 0);
        bad("oneyes;", 1, 0);
        bad("one yess;", 1, 4);
        bad("one ye;", 1, 4);
        bad("x" + "dead".repeat(100) + " 1;", 1, 0);
        bad("dead 1 2;", 1, 7);
        bad("dead 1x;", 1, 6);
        bad("dead x1;", 1, 5);
        bad("dead 1.", 1, 6);
    }

    private static void blanks() {
        Check.says("any blanks (32, 10) between");
        good("", 0);
        good(" ", 0);
        good("\n", 0);
        good(" ".repeat(600), 0);
        good("\n".repeat(600), 0);
        good(" ".repeat(593) + "dead 1;", 1);
        good("dead 1;" + "\n".repeat(593), 1);
        good("dead" + " ".repeat(594) + "1;", 1);
        good("dead 1" + "\n".repeat(593) + ";", 1);
        bad("dead\t1;", 1, 4);
        bad("dead\r1;", 1, 4);
        bad("dead\u00001;", 1, 4);
        bad("dead\u00a01;", 1, 4);
        bad("dead\u001f1;", 1, 4);
        bad("dead\u000b1;", 1, 4);
    }

    private static void digits() {
        Check.says("N (digits, as many as there are, 4 at most)");
        Check.due("1 digit", told("dead 5;").rule(0), 5);
        Check.due("2 digits", told("dead 05;").rule(0), 5);
        Check.due("3 digits", told("dead 005;").rule(0), 5);
        Check.due("4 digits", told("dead 0005;").rule(0), 5);
        bad("dead 00005;", 1, 5);
        bad("dead 12345;", 1, 5);
        bad("dead " + "0".repeat(594) + ";", 1, 5);
        bad("dead 4294967301;", 1, 5);
        bad("dead " + "9".repeat(595), 1, 5);
        bad("votes 00003 50;", 1, 6);
        bad("votes 3 00050;", 1, 8);
        bad("theme 00001 1;", 1, 6);
        bad("theme 1 00001;", 1, 8);
        bad("00001", 1, 0);
    }

    private static void lines() {
        Check.says("text = {line \";\"}. line = \"dead\" N | \"lived\" N | \"sources\" N | \"span\" N | \"one\" (\"yes\" | \"no\") |"
            + " \"votes\" N N | \"down\" N | \"theme\" N N.");
        good("dead 1;", 1);
        good("lived 1;", 1);
        good("sources 1;", 1);
        good("span 1;", 1);
        good("one yes;", 1);
        good("one no;", 1);
        good("votes 1 1;", 1);
        good("down 1;", 1);
        good("theme 1 1;", 1);
        bad(";", 1, 0);
        bad("dead 1;;", 1, 7);
        bad("dead 1 lived 1;", 1, 7);
        bad("dead;", 1, 4);
        bad("votes 1;", 1, 7);
        bad("votes 1 1 1;", 1, 10);
        bad("theme 1;", 1, 7);
        bad("theme 1 1 1;", 1, 10);
        bad("one;", 1, 3);
        bad("one 1;", 1, 4);
        bad("one dead;", 1, 4);
        bad("one yes yes;", 1, 8);
        bad("dead yes;", 1, 5);
        bad("yes;", 1, 0);
        bad("1;", 1, 0);
    }

    private static void untold() {
        Check.says("What a text doesn't tell is so: dead 20, lived 1, sources 1, span 999, one yes, votes 3 50, down 66, no"
            + " themes.");
        String[] texts = {"dead 7;", "lived 7;", "sources 5;", "span 7;", "one no;", "votes 7 8;", "down 7;", "theme 3 7;",
            ""};
        int[] places = {0, 1, 2, 3, 4, 5, 7, 13, -1};
        int[] values = {7, 7, 5, 7, 0, 7, 7, 7, 0};
        for (int t = 0; t < texts.length; t++) {
            HereLived x = told("dead 2;lived 2;sources 2;span 2;one no;votes 2 2;down 2;theme 0 2;theme 7 2;");
            Check.tell(x, texts[t]);
            x.rules();
            int[] due = {20, 1, 1, 999, 1, 3, 50, 66, -9, -9, -1, -1, -1, -1, -1, -1, -1, -1};
            if (places[t] >= 0) {
                due[places[t]] = values[t];
            }
            due[6] = places[t] == 5 ? 8 : 50;
            for (int what = 0; what < due.length; what++) {
                Check.due("rule(" + what + ") by [" + texts[t] + "]", x.rule(what), due[what]);
            }
        }
    }

    private static void boundsOfOne() {
        Check.says("Bounds: dead, lived, span 0 .. 999; sources 0 .. 6");
        for (int w = 0; w < WORDS.length; w++) {
            for (int n : new int[] {0, 1, MOST[w] - 1, MOST[w]}) {
                good(WORDS[w] + " " + n + ";", 1);
                Check.due(WORDS[w] + " " + n, told(WORDS[w] + " " + n + ";").rule(PLACES[w]), n);
            }
            for (int n : new int[] {MOST[w] + 1, 1000, 9999}) {
                bad(WORDS[w] + " " + n + ";", 2, WORDS[w].length() + 1);
            }
        }
    }

    private static void boundsOfTwo() {
        Check.says("the first N of votes 0 .. 99; the second, down 0 .. 100; of theme the first 0 .. 7, the second 0 .. 99.");
        for (int n : new int[] {0, 1, 98, 99}) {
            Check.due("votes " + n, told("votes " + n + " 1;").rule(5), n);
            Check.due("theme 1 " + n, told("theme 1 " + n + ";").rule(11), n);
        }
        for (int n : new int[] {0, 1, 99, 100}) {
            Check.due("votes 1 " + n, told("votes 1 " + n + ";").rule(6), n);
        }
        for (int t = 0; t <= 7; t++) {
            Check.due("theme " + t, told("theme " + t + " 5;").rule(10 + t), 5);
        }
        bad("votes 100 50;", 2, 6);
        bad("votes 9999 50;", 2, 6);
        bad("votes 50 101;", 2, 9);
        bad("votes 50 9999;", 2, 9);
        bad("votes 100 101;", 2, 6);
        bad("theme 8 1;", 2, 6);
        bad("theme 9999 1;", 2, 6);
        bad("theme 7 100;", 2, 8);
        bad("theme 7 9999;", 2, 8);
        bad("theme 8 100;", 2, 6);
    }

    private static void placeOfFaults() {
        Check.says("KIND and PLACE (a TOKEN's first byte; the text's length at its end)");
        bad("  \n deads 5;", 1, 4);
        bad("dead   1000;", 2, 7);
        bad("dead 1;\n\ndead", 3, 9);
        bad("dead", 1, 4);
        bad("dead \n", 1, 6);
        bad("dead 1", 1, 6);
        bad("votes 1", 1, 7);
        bad("votes 1 1", 1, 9);
        bad("one", 1, 3);
        bad("one yes", 1, 7);
        bad("theme 1", 1, 7);
        bad("dead 1;lived", 1, 12);
        bad("dead 1" + " ".repeat(594), 1, 600);
        bad(" ".repeat(596) + "dead", 1, 600);
        bad(" ".repeat(599) + "x", 1, 599);
    }

    private static void theFirstCome() {
        Check.says("the first come to as TOKENS are read one by one");
        bad("dead 1000;dead 1;x", 2, 5);
        bad("dead 1;dead 1000;x", 3, 7);
        bad("x dead 1000;", 1, 0);
        bad("dead 1000 x", 2, 5);
        bad("dead 1000", 2, 5);
        bad("theme 1 1;theme 1 100;", 3, 16);
        bad("theme 1 100;theme 1 1;", 2, 8);
        bad("dead 1;lived 1;lived", 3, 15);
    }

    private static void leastKind() {
        Check.says("of one TOKEN the least KIND");
        bad("theme 1 1;theme 00001 1;", 1, 16);
        bad("theme 1 1;theme x 1;", 1, 16);
        bad("theme 1 1;theme 8 1;", 2, 16);
        bad("theme 1 1;theme 1 1;", 3, 16);
        bad("dead 10000;", 1, 5);
        bad("dead 1;lived dead 1;", 1, 13);
        bad("dead 1;lived 1 dead 1;", 1, 15);
    }

    /** A token of each kind behind each beginning of a line, but for the one kind that goes on. */
    private static void syntaxEverywhere() {
        Check.says("1 SYNTAX: a TOKEN (or byte that is none, a run that is too long) with which no text goes on.");
        String[] begun = {"", "dead", "dead 1", "lived", "lived 1", "sources", "sources 1", "span", "span 1", "one", "one yes",
            "one no", "votes", "votes 1", "votes 1 1", "down", "down 1", "theme", "theme 1", "theme 1 1"};
        String[] goesOn = {"w", "1", ";", "1", ";", "1", ";", "1", ";", "y", ";", ";", "1", "1", ";", "1", ";", "1", "1", ";"};
        String[] next = {"1", "w", ";", "y", "z", "!", "-", "A", "\u00ff", "\t", "00001"};
        for (int b = 0; b < begun.length; b++) {
            for (String kind : next) {
                String token = kind.equals("w") ? "down" : kind.equals("y") ? "yes" : kind.equals("z") ? "zoo" : kind;
                boolean twice = token.equals("down") && begun[b].startsWith("down");
                if (!kind.equals(goesOn[b]) && !twice) {
                    bad(begun[b] + " " + token + " ;;", 1, begun[b].length() + 1);
                }
            }
        }
    }

    private static void everyByte() {
        Check.says("a TOKEN (or byte that is none, a run that is too long) with which no text goes on");
        for (int sign = 0; sign < 256; sign++) {
            String text = "dead 7" + (char) sign + ";";
            if (sign == ' ' || sign == '\n') {
                good(text, 1);
            } else if (sign == ';') {
                bad(text, 1, 7);
            } else if (sign >= '0' && sign <= '9') {
                good(text, 1);
            } else {
                bad(text, 1, 6);
            }
        }
    }

    private static void outOfBounds() {
        Check.says("2 RANGE: an N out of its bounds.");
        for (int n = 0; n <= 9999; n += n < 110 ? 1 : 1 + n % 10 * 89) {
            String at = " " + n + ";";
            outOfBounds("dead" + at, n, 999, 5);
            outOfBounds("lived" + at, n, 999, 6);
            outOfBounds("sources" + at, n, 6, 8);
            outOfBounds("span" + at, n, 999, 5);
            outOfBounds("votes" + " " + n + " 0;", n, 99, 6);
            outOfBounds("votes 0" + at, n, 100, 8);
            outOfBounds("down" + at, n, 100, 5);
            outOfBounds("theme" + " " + n + " 0;", n, 7, 6);
            outOfBounds("theme 0" + at, n, 99, 8);
        }
    }

    private static void outOfBounds(String text, int n, int most, int place) {
        if (n > most) {
            bad(text, 2, place);
        } else {
            good(text, 1);
        }
    }

    private static void twice() {
        Check.says("3 TWICE: a line's first WORD that was told already (of theme the first N, at it).");
        String[] all = {"dead 1;", "lived 1;", "sources 1;", "span 1;", "one yes;", "votes 1 1;", "down 1;"};
        for (String line : all) {
            bad(line + line, 3, line.length());
            bad(line + "theme 1 1;" + line, 3, line.length() + 10);
            for (String other : all) {
                if (!other.equals(line)) {
                    good(line + other, 2);
                }
            }
        }
        bad("one yes;one no;", 3, 8);
    }

    private static void themesTwice() {
        Check.says("(of theme the first N, at it)");
        for (int t = 0; t <= 7; t++) {
            bad("theme " + t + " 1;theme " + t + " 2;", 3, 16);
            bad("theme " + t + " 1;theme 000" + t + " 2;", 3, 16);
            good("theme " + t + " 1;theme " + (t + 1) % 8 + " 1;", 2);
        }
        good("theme 0 0;theme 1 0;theme 2 0;theme 3 0;theme 4 0;theme 5 0;theme 6 0;theme 7 0;", 8);
        bad("theme 1 1;theme 1", 3, 16);
        bad("theme 1 1;theme", 1, 15);
    }

    private static void rulesCount() {
        Check.says("THE TAPE is the RULES: how many lines");
        good("", 0);
        good("dead 1;", 1);
        good("dead 1;lived 1;sources 1;span 1;one no;votes 1 1;down 1;theme 0 0;theme 1 0;theme 2 0;theme 3 0;theme 4 0;"
            + "theme 5 0;theme 6 0;theme 7 0;", 15);
    }

    private static void rulesStay() {
        Check.says("NONE with a FAULT (the RULES stay)");
        String[] faulty = {"dead 9;lived 9;sources 4;span 9;one yes;votes 9 9;down 9;theme 0 9;theme 7 9", "dead 9;x",
            "dead 9;lived 1000;", "dead 9;dead 9;"};
        for (String text : faulty) {
            HereLived x = told("dead 2;lived 2;sources 2;span 2;one no;votes 2 3;down 2;theme 0 2;");
            Check.tell(x, text);
            Check.due("rules of [" + text + "]", x.rules(), -1);
            int[] due = {2, 2, 2, 2, 0, 2, 3, 2, -9, -9, 2, -1, -1, -1, -1, -1, -1, -1};
            for (int what = 0; what < due.length; what++) {
                Check.due("rule(" + what + ") behind [" + text + "]", x.rule(what), due[what]);
            }
            Check.due("the tape is empty", x.count(5), 0);
        }
    }

    private static void latestFault() {
        Check.says("Of the latest rules(), what 0: its FAULT's KIND, 0 without (and ahead of any)");
        HereLived x = new HereLived();
        Check.due("ahead of any", x.fault(0), 0);
        String[] texts = {"x", "dead 1000;", "dead 1;dead 1;", "dead 1;", "dead", ""};
        int[] kinds = {1, 2, 3, 0, 1, 0};
        for (int t = 0; t < texts.length; t++) {
            Check.tell(x, texts[t]);
            x.rules();
            Check.due("of [" + texts[t] + "]", x.fault(0), kinds[t]);
            Check.due("asked again", x.fault(0), kinds[t]);
        }
    }

    private static void placeWithout() {
        Check.says("1: its PLACE (NONE).");
        HereLived x = new HereLived();
        Check.due("ahead of any", x.fault(1), -1);
        String[] texts = {"x", " x", "dead 1;", "dead", "", "!"};
        int[] places = {0, 1, -1, 4, -1, 0};
        for (int t = 0; t < texts.length; t++) {
            Check.tell(x, texts[t]);
            x.rules();
            Check.due("of [" + texts[t] + "]", x.fault(1), places[t]);
        }
    }

    private static void otherFault() {
        Check.says("NONE for another what.");
        HereLived x = told("  x");
        for (int what : new int[] {-1, 2, 3, 10, MIN, MAX}) {
            Check.due("fault(" + what + ")", x.fault(what), -1);
        }
    }

    private static void ruleOne() {
        Check.says("RULE what: 0 dead, 1 lived, 2 sources, 3 span, 4 one (1 yes), 5, 6 votes, 7 down");
        Check.due("one no", told("one no;").rule(4), 0);
        Check.due("one yes", told("one yes;").rule(4), 1);
        Check.due("one isn't told", told("dead 1;").rule(4), 1);
        HereLived x = told("dead 10;lived 11;sources 2;span 13;one yes;votes 15 16;down 17;");
        int[] due = {10, 11, 2, 13, 1, 15, 16, 17};
        for (int what = 0; what < due.length; what++) {
            Check.due("rule(" + what + ")", x.rule(what), due[what]);
        }
    }

    private static void ruleThemes() {
        Check.says("10 + t: theme t (NONE).");
        HereLived x = told("theme 0 0;theme 7 99;");
        int[] due = {0, -1, -1, -1, -1, -1, -1, 99};
        for (int t = 0; t < 8; t++) {
            Check.due("rule(" + (10 + t) + ")", x.rule(10 + t), due[t]);
        }
    }

    private static void otherRule() {
        Check.says("-9 for another what.");
        HereLived x = told("theme 0 1;theme 7 1;");
        for (int what : new int[] {-1, -9, -10, 8, 9, 18, 19, 28, MIN, MAX}) {
            Check.due("rule(" + what + ")", x.rule(what), -9);
        }
    }
}
