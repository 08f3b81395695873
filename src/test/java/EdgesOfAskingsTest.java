/** Promises 16 to 19 and 24, sentence by sentence: each that names an edge, with what is due at it and beside it. */
public final class EdgesOfAskingsTest {
    private static final int MIN = Integer.MIN_VALUE;
    private static final int MAX = Integer.MAX_VALUE;
    private static final int[] NO_ASKING = {-1, 5, 39, 40, MIN, MAX};

    public static void main(String[] args) {
        atMostForty();
        yearNotBelow();
        askRefused();
        aliveOrDead();
        fewerYears();
        fewerSources();
        goneOrMayBe();
        plaqueOfTheirs();
        plaqueOnTheSite();
        themeTells();
        span();
        againstNow();
        againstRefused();
        votesTakeThePlace();
        voteRefused();
        voteInEveryState();
        states();
        fewerVotes();
        fewerInAHundred();
        somethingSpeaks();
        asTheyAreThen();
        decideRefused();
        decideInEveryState();
        aboutVotes();
        aboutWhatSpoke();
        aboutLines();
        aboutNone();
        Check.end();
    }

    /**
     * Askings 0 .. 4 in states 0 .. 4: open, refused, granted, hanging, taken down; sites 0 .. 4 are numbers 1 .. 5 of
     * street 0, person p of theme p lived in site p from 1620 to 1629 and died in 1650; all was asked in 1700.
     */
    static HereLived everyState() {
        HereLived x = new HereLived();
        for (int i = 0; i < 5; i++) {
            x.site(1500, 1500, 0, 1 + i);
            x.person(1600, 1650, i);
            x.paper(i, i, 0, 1 + i, 1620, 1629);
            x.ask(i, i, 1700);
            x.vote(i, i == 1 ? 0 : 7, 1);
        }
        for (int a = 1; a < 5; a++) {
            Check.due("decide(" + a + ")", x.decide(a), a == 1 ? 1 : 2);
        }
        for (int a = 3; a < 5; a++) {
            Check.tell(x, "Here lived");
            Check.due("hang(" + a + ")", x.hang(a, 20, 2), 2);
        }
        Check.due("down(4)", x.down(4, 1, 0), 4);
        for (int a = 0; a < 5; a++) {
            Check.due("state of " + a, x.about(a, 3), a);
        }
        return x;
    }

    private static void atMostForty() {
        Check.says("ASKINGS, at most 40, numbered from 0");
        HereLived x = AskingsTest.desk();
        for (int a = 0; a < 40; a++) {
            Check.due("asking " + a, x.ask(0, 0, 1700), a);
            Check.due("refused, it takes no number", x.ask(0, 0, 1699), -2);
            Check.due("askings", x.count(3), a + 1);
        }
        Check.due("the 41st", x.ask(0, 0, 1700), -3);
        Check.due("askings", x.count(3), 40);
        Check.due("the 40th is voted on", x.vote(39, 9, 0), 1);
        Check.due("the 40th is decided", x.decide(39), 2);
        Check.tell(x, "Here");
        Check.due("the 40th hangs", x.hang(39, 400, 8), 1);
        Check.due("its line", x.line(39, 0), 1);
        Check.due("its width", x.wide(39, 0), 17);
        Check.due("there is no 41st", x.vote(40, 9, 0), -2);
        Check.due("a decided one gives no room", x.ask(0, 0, 1700), -3);
    }

    private static void yearNotBelow() {
        Check.says("for one of the PEOPLE, a SITE, a year (not below that of the one before).");
        HereLived x = AskingsTest.desk();
        Check.due("1500", x.ask(0, 0, 1500), 0);
        Check.due("1500 again", x.ask(0, 0, 1500), 1);
        Check.due("1700", x.ask(0, 0, 1700), 2);
        Check.due("1699", x.ask(0, 0, 1699), -2);
        Check.due("1700 again", x.ask(0, 0, 1700), 3);
        Check.due("no such person in 1900", x.ask(1, 0, 1900), -2);
        Check.due("a refused one's year doesn't count", x.ask(0, 0, 1701), 4);
        Check.due("2100", x.ask(0, 0, 2100), 5);
        Check.due("2099", x.ask(0, 0, 2099), -2);
        Check.due("2100 again", x.ask(0, 0, 2100), 6);
    }

    private static void askRefused() {
        Check.says("An ASKING: its number; RANGE: no such person, SITE, year, or a year below the latest ASKING's; FULL.");
        HereLived x = AskingsTest.desk();
        for (int none : new int[] {-1, 1, 30, 40, MIN, MAX}) {
            Check.due("person " + none, x.ask(none, 0, 1700), -2);
            Check.due("site " + none, x.ask(0, none, 1700), -2);
        }
        for (int year : new int[] {1499, 2101, 0, -1, MIN, MAX}) {
            Check.due("year " + year, x.ask(0, 0, year), -2);
        }
        Check.due("askings", x.count(3), 0);
        for (int a = 0; a < 40; a++) {
            x.ask(0, 0, 1700);
        }
        Check.due("FULL", x.ask(0, 0, 1700), -3);
        Check.due("person, ahead of FULL", x.ask(1, 0, 1700), -2);
        Check.due("site, ahead of FULL", x.ask(0, 1, 1700), -2);
        Check.due("year, ahead of FULL", x.ask(0, 0, 2101), -2);
        Check.due("a year below, ahead of FULL", x.ask(0, 0, 1699), -2);
    }

    private static void aliveOrDead() {
        Check.says("1 alive, or dead for fewer than dead years");
        HereLived x = AskingsTest.desk();
        x.person(1600, -1, 0);
        x.paper(1, 0, 0, 1, 1620, 1620);
        int[] years = {1649, 1650, 1651, 1669, 1670, 1671};
        for (int year : years) {
            x.ask(0, 0, year);
        }
        x.ask(1, 0, 2100);
        int[] deads = {0, 1, 19, 20, 21};
        for (int dead : deads) {
            AskingsTest.rules(x, "dead " + dead + ";");
            for (int a = 0; a < years.length; a++) {
                Check.due("dead for " + (years[a] - 1650) + " of " + dead, x.against(a), years[a] - 1650 < dead ? 1 : 0);
            }
            Check.due("alive, dead " + dead, x.against(6), 1);
        }
        AskingsTest.rules(x, "dead 999;");
        Check.due("nobody is dead for 999 years", x.against(5), 1);
    }

    private static void fewerYears() {
        Check.says("2 LIVED there SURELY in fewer than lived years");
        HereLived x = AskingsTest.desk();
        x.ask(0, 0, 1700);
        Check.due("10 of 1", x.against(0), 0);
        AskingsTest.rules(x, "lived 10;");
        Check.due("10 of 10", x.against(0), 0);
        AskingsTest.rules(x, "lived 11;");
        Check.due("10 of 11", x.against(0), 2);
        x.site(1630, 1700, 0, 2);
        x.paper(0, 0, 0, 2, 1630, 1660);
        Check.due("those of another site", x.against(0), 2);
        AskingsTest.rules(x, "lived 999;");
        Check.due("10 of 999", x.against(0), 2);
        x.falsify(0, true);
        AskingsTest.rules(x, "lived 0;sources 0;");
        Check.due("0 of 0", x.against(0), 128);
        AskingsTest.rules(x, "lived 1;sources 0;");
        Check.due("0 of 1", x.against(0), 2 + 128);
    }

    private static void fewerSources() {
        Check.says("4 fewer than sources unlike SOURCES among PAPERS (not FALSE) that have a year in which they LIVED there"
            + " SURELY by that PAPER");
        HereLived x = AskingsTest.desk();
        x.ask(0, 0, 1700);
        Check.due("1 of 1", x.against(0), 0);
        AskingsTest.rules(x, "sources 2;");
        Check.due("1 of 2", x.against(0), 4);
        x.paper(0, 0, 0, 1, 1625, 1625);
        Check.due("the same source", x.against(0), 4);
        x.paper(0, 1, 1, 1, 1625, 1625);
        Check.due("another, by which it isn't sure", x.against(0), 4);
        x.paper(0, 5, 0, 1, 1625, 1625);
        Check.due("2 of 2", x.against(0), 0);
        x.falsify(3, true);
        Check.due("it is false", x.against(0), 4);
        for (int source = 0; source < 6; source++) {
            x.paper(0, source, 0, 1, 1625, 1625);
        }
        AskingsTest.rules(x, "sources 6;");
        Check.due("6 of 6", x.against(0), 0);
        x.falsify(5, true);
        Check.due("5 of 6", x.against(0), 4);
        for (int k = 0; k < 10; k++) {
            x.falsify(k, true);
        }
        AskingsTest.rules(x, "sources 0;lived 0;");
        Check.due("0 of 0", x.against(0), 128);
    }

    private static void goneOrMayBe() {
        Check.says("8 the SITE is gone, or may be (in that year no NUMBERING with a number SURELY holds)");
        HereLived x = new HereLived();
        x.site(1680, 1690, 0, 1);
        x.renumber(0, 1700, 1710, 0, 2);
        x.renumber(0, 1720, 1730, 0, 0);
        x.person(1600, 1650, 0);
        int[] years = {1679, 1680, 1689, 1690, 1699, 1700, 1709, 1710, 1719, 1720, 1729, 1730, 2100};
        int[] due = {8, 8, 8, 0, 0, 8, 8, 0, 0, 8, 8, 8, 8};
        for (int i = 0; i < years.length; i++) {
            Check.due("in " + years[i], x.against(x.ask(0, 0, years[i])) & 8, due[i]);
        }
        HereLived y = AskingsTest.desk();
        y.ask(0, 0, 1700);
        y.site(1600, 1600, 0, 1);
        Check.due("another site with its number is no matter", y.against(0) & 8, 0);
    }

    private static void plaqueOfTheirs() {
        Check.says("16 one is yes, and a PLAQUE of theirs hangs");
        HereLived x = everyState();
        int year = 1700;
        Check.due("of the open one", x.against(x.ask(0, 0, year)), 0);
        Check.due("of the refused one", x.against(x.ask(1, 1, year)), 0);
        Check.due("of the granted one, that doesn't hang yet", x.against(x.ask(2, 2, year)), 0);
        Check.due("of the one that hangs", x.against(x.ask(3, 0, year)) & 16, 16);
        Check.due("of the one taken down", x.against(x.ask(4, 4, year)), 0);
        x.join(0, 3);
        Check.due("of one with the one that hangs", x.against(0), 16);
        AskingsTest.rules(x, "one no;");
        Check.due("one is no", x.against(0), 0);
        Check.due("one is no, of the one that hangs", x.against(8) & 16, 0);
        AskingsTest.rules(x, "one yes;");
        x.down(3, 1, 0);
        Check.due("none hangs", x.against(0), 0);
    }

    private static void plaqueOnTheSite() {
        Check.says("32 a PLAQUE hangs on the SITE");
        HereLived x = everyState();
        for (int s = 0; s < 5; s++) {
            int a = x.ask(0, s, 1700);
            Check.due("on the site of state " + s, x.against(a) & 32, s == 3 ? 32 : 0);
        }
        AskingsTest.rules(x, "one no;");
        Check.due("one is no matter", x.against(8) & 32, 32);
        x.down(3, 1, 0);
        Check.due("taken down", x.against(8) & 32, 0);
    }

    private static void themeTells() {
        Check.says("64 as many PLAQUES of the THEME hang as theme tells");
        HereLived x = everyState();
        int[] hang = {0, 0, 0, 1, 0};
        for (int t = 0; t < 5; t++) {
            Check.due("theme " + t + ", not told", x.against(t) & 64, 0);
        }
        AskingsTest.rules(x, "theme 0 0;theme 1 0;theme 2 0;theme 3 0;theme 4 0;");
        for (int t = 0; t < 5; t++) {
            Check.due("theme " + t + ", none may hang", x.against(t) & 64, 64);
        }
        AskingsTest.rules(x, "theme 0 1;theme 1 1;theme 2 1;theme 3 1;theme 4 1;");
        for (int t = 0; t < 5; t++) {
            Check.due("theme " + t + ", one may hang", x.against(t) & 64, hang[t] * 64);
        }
        AskingsTest.rules(x, "theme 3 2;");
        Check.due("two may hang", x.against(3) & 64, 0);
        AskingsTest.rules(x, "theme 3 1;");
        x.join(0, 3);
        Check.due("of another theme, though ONE", x.against(0) & 64, 0);
        x.down(3, 1, 0);
        Check.due("none hangs", x.against(3) & 64, 0);
    }

    private static void span() {
        Check.says("128 from the last year in which they SURELY LIVED there (none: 128 too) to the asking more than span years.");
        HereLived x = AskingsTest.desk();
        int[] years = {1628, 1629, 1630, 1728, 1729, 1730, 2100};
        for (int year : years) {
            x.ask(0, 0, year);
        }
        int[] spans = {0, 1, 99, 100, 101, 470, 471, 999};
        for (int most : spans) {
            AskingsTest.rules(x, "span " + most + ";");
            for (int a = 0; a < years.length; a++) {
                Check.due((years[a] - 1629) + " of " + most, x.against(a) & 128, years[a] - 1629 > most ? 128 : 0);
            }
        }
        x.falsify(0, true);
        Check.due("none, span 999", x.against(4) & 128, 128);
    }

    private static void againstNow() {
        Check.says("What speaks against an ASKING now, as bits; RANGE.");
        HereLived x = AskingsTest.desk();
        x.person(1600, -1, 3);
        x.ask(1, 0, 1700);
        Check.due("alive, and never there", x.against(0), 1 + 2 + 4 + 128);
        x.renumber(0, 1690, 1710, 0, 0);
        Check.due("it may be gone too", x.against(0), 1 + 2 + 4 + 8 + 128);
        AskingsTest.rules(x, "theme 3 0;");
        Check.due("all but plaques", x.against(0), 1 + 2 + 4 + 8 + 64 + 128);
        HereLived y = AskingsTest.desk();
        AskingsTest.hung(y, 0, 0, 1680);
        y.person(1600, -1, 0);
        y.join(0, 1);
        y.ask(1, 0, 1700);
        y.renumber(0, 1690, 1710, 0, 0);
        y.falsify(0, true);
        AskingsTest.rules(y, "theme 0 1;");
        Check.due("all", y.against(1), 255);
        y.falsify(0, false);
        Check.due("true again", y.against(1), 255 - 2 - 4 - 128);
        Check.due("asked again", y.against(1), 255 - 2 - 4 - 128);
    }

    private static void againstRefused() {
        Check.says("What speaks against an ASKING now, as bits; RANGE.");
        Check.due("there are none", AskingsTest.desk().against(0), -2);
        HereLived x = everyState();
        for (int a : NO_ASKING) {
            Check.due("against(" + a + ")", x.against(a), -2);
        }
    }

    private static void votesTakeThePlace() {
        Check.says("(0 .. 99 each; they take the place of those before): 1");
        HereLived x = AskingsTest.desk();
        x.ask(0, 0, 1700);
        int[][] votes = {{0, 0}, {99, 99}, {99, 0}, {0, 99}, {2, 3}};
        for (int[] v : votes) {
            Check.due("vote(0, " + v[0] + ", " + v[1] + ")", x.vote(0, v[0], v[1]), 1);
            Check.due("for", x.about(0, 4), v[0]);
            Check.due("against", x.about(0, 5), v[1]);
        }
        Check.due("2 of 5 are too few, whatever was ahead", x.decide(0), 1);
    }

    private static void voteRefused() {
        Check.says("Votes for and against an ASKING that is OPEN (0 .. 99 each; they take the place of those before): 1; RANGE");
        HereLived x = everyState();
        for (int a : NO_ASKING) {
            Check.due("vote(" + a + ", 1, 1)", x.vote(a, 1, 1), -2);
        }
        for (int votes : new int[] {-1, 100, MIN, MAX}) {
            Check.due("vote(0, " + votes + ", 0)", x.vote(0, votes, 0), -2);
            Check.due("vote(0, 0, " + votes + ")", x.vote(0, 0, votes), -2);
            Check.due("RANGE ahead of STATE", x.vote(1, votes, 0), -2);
        }
        Check.due("for, as before", x.about(0, 4), 7);
        Check.due("against, as before", x.about(0, 5), 1);
    }

    private static void voteInEveryState() {
        Check.says("STATE: it isn't OPEN.");
        HereLived x = everyState();
        Check.due("open", x.vote(0, 5, 5), 1);
        for (int a = 1; a < 5; a++) {
            Check.due("state " + a, x.vote(a, 5, 5), -4);
            Check.due("for, as before", x.about(a, 4), a == 1 ? 0 : 7);
            Check.due("against, as before", x.about(a, 5), 1);
        }
    }

    /** One asking through all that it can be, and another that is refused. */
    private static void states() {
        Check.says("States: 0 OPEN, 1 REFUSED, 2 GRANTED, 3 HANGS, 4 TAKEN DOWN.");
        HereLived x = AskingsTest.desk();
        x.ask(0, 0, 1700);
        x.ask(0, 0, 1700);
        Check.due("open", x.about(0, 3), 0);
        x.vote(0, 9, 0);
        Check.due("voted on, open yet", x.about(0, 3), 0);
        Check.due("granted", x.decide(0), 2);
        Check.due("granted", x.about(0, 3), 2);
        Check.tell(x, "Here");
        x.hang(0, 400, 8);
        Check.due("hangs", x.about(0, 3), 3);
        Check.due("hangs yet", x.down(0, 0, 9), 3);
        Check.due("hangs yet", x.about(0, 3), 3);
        Check.due("taken down", x.down(0, 9, 0), 4);
        Check.due("taken down", x.about(0, 3), 4);
        Check.due("refused", x.decide(1), 1);
        Check.due("refused", x.about(1, 3), 1);
    }

    private static int decided(String rules, int yes, int no) {
        HereLived x = AskingsTest.desk();
        AskingsTest.rules(x, rules);
        x.ask(0, 0, 1700);
        Check.due("vote", x.vote(0, yes, no), 1);
        return x.decide(0);
    }

    private static void fewerVotes() {
        Check.says("or fewer votes were given than the first N of votes");
        Check.due("none of 3", decided("votes 3 0;", 0, 0), 1);
        Check.due("2 of 3", decided("votes 3 0;", 2, 0), 1);
        Check.due("1 and 1 of 3", decided("votes 3 0;", 1, 1), 1);
        Check.due("3 of 3", decided("votes 3 0;", 3, 0), 2);
        Check.due("1 and 2 of 3", decided("votes 3 0;", 1, 2), 2);
        Check.due("0 and 3 of 3", decided("votes 3 0;", 0, 3), 2);
        Check.due("98 of 99", decided("votes 99 0;", 49, 49), 1);
        Check.due("99 of 99", decided("votes 99 0;", 50, 49), 2);
        Check.due("198 of 99", decided("votes 99 0;", 99, 99), 2);
        Check.due("none of 0", decided("votes 0 0;", 0, 0), 2);
        HereLived x = AskingsTest.desk();
        x.ask(0, 0, 1700);
        Check.due("nobody voted", x.decide(0), 1);
    }

    private static void fewerInAHundred() {
        Check.says("or of those fewer than the second N in a hundred for it; else GRANTED.");
        Check.due("49 of 50 in a hundred", decided("votes 1 50;", 49, 51), 1);
        Check.due("50 of 50 in a hundred", decided("votes 1 50;", 50, 50), 2);
        Check.due("98 of 197", decided("votes 1 50;", 98, 99), 1);
        Check.due("99 of 198", decided("votes 1 50;", 99, 99), 2);
        Check.due("1 of 3 is fewer than 34", decided("votes 1 34;", 1, 2), 1);
        Check.due("1 of 3 isn't fewer than 33", decided("votes 1 33;", 1, 2), 2);
        Check.due("98 of 99 are fewer than 99", decided("votes 1 99;", 98, 1), 1);
        Check.due("99 of 100", decided("votes 1 99;", 99, 1), 2);
        Check.due("99 of 100 are fewer than 100", decided("votes 1 100;", 99, 1), 1);
        Check.due("all", decided("votes 1 100;", 1, 0), 2);
        Check.due("none of 1 in a hundred", decided("votes 1 1;", 0, 1), 1);
        Check.due("1 of 100 in a hundred", decided("votes 1 1;", 1, 99), 2);
        Check.due("none of 0 in a hundred", decided("votes 1 0;", 0, 99), 2);
        Check.due("of no votes at all, 100 in a hundred", decided("votes 0 100;", 0, 0), 2);
    }

    private static void somethingSpeaks() {
        Check.says("REFUSED if something speaks against it");
        String[] rules = {"dead 51;", "lived 11;", "sources 2;", "span 70;", "theme 0 0;"};
        int[] bits = {1, 2, 4, 128, 64};
        for (int i = 0; i < rules.length; i++) {
            HereLived x = AskingsTest.desk();
            AskingsTest.rules(x, rules[i]);
            x.ask(0, 0, 1700);
            x.vote(0, 99, 0);
            Check.due("decide by [" + rules[i] + "]", x.decide(0), 1);
            Check.due("what spoke", x.about(0, 6), bits[i]);
        }
        HereLived gone = AskingsTest.desk();
        gone.renumber(0, 1700, 1701, 0, 2);
        gone.ask(0, 0, 1700);
        gone.vote(0, 99, 0);
        Check.due("decide, may be gone", gone.decide(0), 1);
        Check.due("what spoke", gone.about(0, 6), 8);
        HereLived x = everyState();
        x.join(0, 3);
        Check.due("decide, a plaque of theirs hangs", x.decide(0), 1);
        Check.due("what spoke", x.about(0, 6), 16);
        x.paper(2, 0, 0, 4, 1640, 1640);
        int a = x.ask(2, 3, 1700);
        x.vote(a, 9, 0);
        Check.due("decide, a plaque hangs there", x.decide(a), 1);
        Check.due("what spoke", x.about(a, 6), 32);
    }

    private static void asTheyAreThen() {
        Check.says("Judged when it is decided: by RULES and PAPERS as they are then");
        HereLived x = AskingsTest.desk();
        for (int a = 0; a < 4; a++) {
            x.ask(0, 0, 1700);
            x.vote(a, 9, 0);
        }
        AskingsTest.rules(x, "lived 11;");
        Check.due("by rules as they are now", x.decide(0), 1);
        AskingsTest.rules(x, "");
        Check.due("by rules as they are again", x.decide(1), 2);
        x.falsify(0, true);
        Check.due("by papers as they are now", x.decide(2), 1);
        x.falsify(0, false);
        Check.due("by papers as they are again", x.decide(3), 2);
        Check.due("what was decided stays", x.about(0, 3), 1);
        Check.due("what spoke then", x.about(0, 6), 2);
        Check.due("what speaks now", x.against(0), 0);
        AskingsTest.rules(x, "lived 11;");
        Check.due("a granted one stays", x.about(1, 3), 2);
        Check.tell(x, "Here");
        Check.due("and may hang, whatever speaks now", x.hang(1, 400, 8), 1);
        Check.tell(x, "Here");
        Check.due("and another on the same site", x.hang(3, 400, 8), 1);
    }

    private static void decideRefused() {
        Check.says("An OPEN ASKING is decided: its state (1, 2); RANGE; STATE.");
        Check.due("there are none", AskingsTest.desk().decide(0), -2);
        HereLived x = everyState();
        for (int a : NO_ASKING) {
            Check.due("decide(" + a + ")", x.decide(a), -2);
        }
    }

    private static void decideInEveryState() {
        Check.says("An OPEN ASKING is decided: its state (1, 2); RANGE; STATE.");
        HereLived x = everyState();
        for (int a = 1; a < 5; a++) {
            Check.due("state " + a, x.decide(a), -4);
            Check.due("it stays", x.about(a, 3), a);
        }
        Check.due("open", x.decide(0), 2);
        Check.due("not open any more", x.decide(0), -4);
    }

    private static void aboutVotes() {
        Check.says("Of ASKING a, what 0: person, 1: SITE, 2: year, 3: state, 4, 5: votes");
        HereLived x = AskingsTest.desk();
        x.person(1600, 1650, 0);
        x.site(1500, 1500, 0, 2);
        x.site(1500, 1500, 0, 3);
        x.ask(1, 2, 2100);
        int[] fresh = {1, 2, 2100, 0, 0, 0, -1, -1};
        for (int what = 0; what < 8; what++) {
            Check.due("about(0, " + what + ") of a new one", x.about(0, what), fresh[what]);
        }
        x.vote(0, 99, 98);
        Check.due("for", x.about(0, 4), 99);
        Check.due("against", x.about(0, 5), 98);
    }

    private static void aboutWhatSpoke() {
        Check.says("6: what spoke against it when it was decided (NONE ahead of that)");
        HereLived x = everyState();
        Check.due("open", x.about(0, 6), -1);
        for (int a = 1; a < 5; a++) {
            Check.due("of state " + a + " nothing did", x.about(a, 6), 0);
        }
        AskingsTest.rules(x, "dead 999;");
        Check.due("still open", x.about(0, 6), -1);
        Check.due("decide", x.decide(0), 1);
        Check.due("dead for too few years", x.about(0, 6), 1);
        AskingsTest.rules(x, "");
        Check.due("then, not now", x.about(0, 6), 1);
    }

    private static void aboutLines() {
        Check.says("7: lines of its PLAQUE (NONE).");
        HereLived x = everyState();
        int[] due = {-1, -1, -1, 2, 2};
        for (int a = 0; a < 5; a++) {
            Check.due("of state " + a, x.about(a, 7), due[a]);
        }
    }

    private static void aboutNone() {
        Check.says("-9 when there is none such.");
        HereLived x = everyState();
        for (int a : NO_ASKING) {
            for (int what = -1; what <= 8; what++) {
                Check.due("about(" + a + ", " + what + ")", x.about(a, what), -9);
            }
        }
        for (int what : new int[] {-1, 8, 9, 10, MIN, MAX}) {
            Check.due("about(0, " + what + ")", x.about(0, what), -9);
            Check.due("about(4, " + what + ")", x.about(4, what), -9);
        }
        Check.due("there are none", AskingsTest.desk().about(0, 0), -9);
    }
}
