/** Promises 16 (ask), 17 (against), 18 (vote), 19 (decide), 24 (about). */
public final class AskingsTest {
    public static void main(String[] args) {
        askRange();
        askFull();
        deadYears();
        livedYears();
        sources();
        siteGone();
        plaques();
        ownYearsAndTheme();
        themes();
        span();
        votes();
        deciding();
        aboutAll();
        Check.end();
    }

    /** Site 0 is street 0 number 1 from 1500 on; person 0, theme 0, 1600 to 1650, lived there 1620 to 1629. */
    static HereLived desk() {
        HereLived x = new HereLived();
        x.site(1500, 1500, 0, 1);
        x.person(1600, 1650, 0);
        x.paper(0, 0, 0, 1, 1620, 1629);
        return x;
    }

    static void rules(HereLived x, String text) {
        Check.tell(x, text);
        Check.that("rules [" + text + "] stand", x.rules() >= 0);
    }

    /** An asking that is granted and hangs with one word. */
    static int hung(HereLived x, int p, int s, int year) {
        int a = x.ask(p, s, year);
        x.vote(a, 99, 0);
        Check.due("decide(" + a + ")", x.decide(a), 2);
        Check.tell(x, "Here");
        Check.due("hang(" + a + ")", x.hang(a, 400, 8), 1);
        return a;
    }

    private static void askRange() {
        HereLived x = desk();
        Check.due("person 1", x.ask(1, 0, 1700), -2);
        Check.due("person -1", x.ask(-1, 0, 1700), -2);
        Check.due("site 1", x.ask(0, 1, 1700), -2);
        Check.due("site -1", x.ask(0, -1, 1700), -2);
        Check.due("year 1499", x.ask(0, 0, 1499), -2);
        Check.due("year 2101", x.ask(0, 0, 2101), -2);
        Check.due("count(3)", x.count(3), 0);
        Check.due("year 1500", x.ask(0, 0, 1500), 0);
        Check.due("year 1700", x.ask(0, 0, 1700), 1);
        Check.due("the same year", x.ask(0, 0, 1700), 2);
        Check.due("a year below", x.ask(0, 0, 1699), -2);
        Check.due("year 2100", x.ask(0, 0, 2100), 3);
        Check.due("count(3)", x.count(3), 4);
    }

    private static void askFull() {
        HereLived x = desk();
        for (int a = 0; a < 40; a++) {
            Check.due("asking " + a, x.ask(0, 0, 1700 + a), a);
        }
        Check.due("asking 41", x.ask(0, 0, 1800), -3);
        Check.due("RANGE ahead of FULL", x.ask(0, 0, 1738), -2);
        Check.due("count(3)", x.count(3), 40);
        Check.due("against(39)", x.against(39), 0);
        Check.due("against(40)", x.against(40), -2);
        Check.due("against(-1)", x.against(-1), -2);
    }

    private static void deadYears() {
        HereLived x = desk();
        x.person(1600, -1, 0);
        x.join(0, 1);
        x.ask(0, 0, 1640);
        x.ask(0, 0, 1650);
        x.ask(0, 0, 1669);
        x.ask(0, 0, 1670);
        x.ask(1, 0, 2000);
        Check.due("before death", x.against(0), 1);
        Check.due("19 years", x.against(2), 1);
        Check.due("20 years", x.against(3), 0);
        Check.due("alive", x.against(4), 1);
        rules(x, "dead 0;");
        Check.due("before death, dead 0", x.against(0), 1);
        Check.due("in the year of death, dead 0", x.against(1), 0);
        Check.due("alive, dead 0", x.against(4), 1);
        rules(x, "dead 21;");
        Check.due("20 of 21", x.against(3), 1);
    }

    private static void livedYears() {
        HereLived x = desk();
        x.ask(0, 0, 1700);
        rules(x, "lived 10;");
        Check.due("10 of 10", x.against(0), 0);
        rules(x, "lived 11;");
        Check.due("10 of 11", x.against(0), 2);
        x.paper(0, 0, 0, 1, 1600, 1600);
        Check.due("11 of 11", x.against(0), 0);
        x.falsify(0, true);
        Check.due("1 of 11", x.against(0), 2);
        x.falsify(1, true);
        Check.due("none: by years, sources and span", x.against(0), 2 + 4 + 128);
        rules(x, "lived 0; sources 0;");
        Check.due("none of 0", x.against(0), 128);
    }

    private static void sources() {
        HereLived x = desk();
        x.ask(0, 0, 1700);
        rules(x, "sources 2;");
        Check.due("1 of 2", x.against(0), 4);
        x.paper(0, 0, 0, 1, 1640, 1640);
        Check.due("the same source", x.against(0), 4);
        x.paper(0, 5, 0, 2, 1641, 1641);
        Check.due("a source of nothing sure", x.against(0), 4);
        x.paper(0, 5, 0, 1, 1641, 1641);
        Check.due("2 of 2", x.against(0), 0);
        x.falsify(3, true);
        Check.due("one is false", x.against(0), 4);
    }

    private static void siteGone() {
        HereLived x = desk();
        x.site(1690, 1695, 1, 1);
        x.renumber(0, 1700, 1710, 0, 2);
        x.renumber(0, 1800, 1810, 0, 0);
        int[] years = {1689, 1694, 1695, 1699, 1700, 1709, 1710, 1799, 1800, 1810, 2000};
        int[] first = {0, 0, 0, 0, 8, 8, 0, 0, 8, 8, 8};
        int[] second = {8, 8, 0, 0, 0, 0, 0, 0, 0, 0, 0};
        for (int i = 0; i < years.length; i++) {
            Check.due("site 0 in " + years[i], x.against(x.ask(0, 0, years[i])), first[i]);
            Check.due("site 1 in " + years[i], x.against(x.ask(0, 1, years[i])), second[i] + 2 + 4 + 128);
        }
    }

    private static void plaques() {
        HereLived x = desk();
        x.site(1500, 1500, 0, 2);
        x.person(1600, 1650, 1);
        x.person(1600, 1650, 2);
        x.paper(0, 0, 0, 2, 1640, 1640);
        x.paper(1, 0, 0, 1, 1640, 1640);
        x.paper(2, 0, 0, 2, 1640, 1640);
        int a = hung(x, 0, 0, 1700);
        int own = x.ask(0, 0, 1700);
        int otherSite = x.ask(0, 1, 1700);
        int otherPerson = x.ask(1, 0, 1700);
        int other = x.ask(2, 1, 1700);
        Check.due("the plaque's own asking", x.against(a), 48);
        Check.due("own, again", x.against(own), 48);
        Check.due("on another site", x.against(otherSite), 16);
        Check.due("of another person", x.against(otherPerson), 32);
        Check.due("of another on another", x.against(other), 0);
        x.join(2, 0);
        Check.due("of the same under two names", x.against(other), 16);
        rules(x, "one no;");
        Check.due("one no", x.against(other), 0);
        Check.due("one no, the site", x.against(own), 32);
        rules(x, "");
        x.down(a, 99, 0);
        Check.due("taken down, own", x.against(own), 0);
        Check.due("taken down, other site", x.against(otherSite), 0);
        Check.due("taken down, other person", x.against(otherPerson), 0);
    }

    /** The granted one doesn't hang yet. */
    private static void ownYearsAndTheme() {
        HereLived x = desk();
        x.person(1600, 1690, 1);
        x.join(0, 1);
        rules(x, "theme 0 1; theme 1 1; one no;");
        int first = x.ask(0, 0, 1700);
        int second = x.ask(1, 0, 1700);
        x.vote(first, 9, 0);
        Check.due("decide", x.decide(first), 2);
        Check.due("granted, not hung", x.against(second), 1);
        Check.tell(x, "1600");
        Check.due("hang", x.hang(first, 400, 1), 1);
        Check.due("hung: own theme, own years", x.against(second), 1 + 32);
        Check.due("theme of the first", x.against(first), 32 + 64);
    }

    private static void themes() {
        HereLived x = desk();
        for (int p = 1; p <= 4; p++) {
            x.site(1500, 1500, 0, 1 + p);
            x.person(1600, 1650, p == 4 ? 3 : 0);
            x.paper(p, 0, 0, 1 + p, 1640, 1640);
        }
        int last = -1;
        rules(x, "theme 0 0;");
        last = x.ask(3, 3, 1700);
        int other = x.ask(4, 4, 1700);
        Check.due("none may hang", x.against(last), 64);
        Check.due("another theme", x.against(other), 0);
        rules(x, "theme 0 2;");
        Check.due("0 of 2", x.against(last), 0);
        int a = hung(x, 0, 0, 1700);
        Check.due("1 of 2", x.against(last), 0);
        hung(x, 1, 1, 1700);
        Check.due("2 of 2", x.against(last), 64);
        Check.due("2 of 2 of another theme", x.against(other), 0);
        rules(x, "theme 0 1;");
        Check.due("2 of 1", x.against(last), 64);
        rules(x, "theme 0 3; theme 3 0;");
        Check.due("2 of 3", x.against(last), 0);
        Check.due("0 of 0 of another theme", x.against(other), 64);
        rules(x, "theme 0 2;");
        x.down(a, 1, 0);
        Check.due("one taken down", x.against(last), 0);
        rules(x, "");
        Check.due("no themes", x.against(last), 0);
    }

    private static void span() {
        HereLived x = desk();
        x.ask(0, 0, 1729);
        x.ask(0, 0, 1730);
        rules(x, "span 100;");
        Check.due("100 of 100", x.against(0), 0);
        Check.due("101 of 100", x.against(1), 128);
        x.paper(0, 0, 0, 1, 1630, 1630);
        Check.due("100 again", x.against(1), 0);
        rules(x, "span 0;");
        Check.due("span 0", x.against(0), 128);
        x.paper(0, 0, 0, 1, 1729, 1729);
        Check.due("span 0 in the same year", x.against(0), 0);
        x.paper(0, 0, 0, 1, 1900, 1900);
        Check.due("lived there later", x.against(1), 0);
    }

    private static void votes() {
        HereLived x = desk();
        Check.due("no asking", x.vote(0, 1, 1), -2);
        x.ask(0, 0, 1700);
        Check.due("asking 1", x.vote(1, 1, 1), -2);
        Check.due("asking -1", x.vote(-1, 1, 1), -2);
        Check.due("yes -1", x.vote(0, -1, 1), -2);
        Check.due("yes 100", x.vote(0, 100, 1), -2);
        Check.due("no -1", x.vote(0, 1, -1), -2);
        Check.due("no 100", x.vote(0, 1, 100), -2);
        Check.due("none yet, yes", x.about(0, 4), 0);
        Check.due("none yet, no", x.about(0, 5), 0);
        Check.due("most", x.vote(0, 99, 98), 1);
        Check.due("yes", x.about(0, 4), 99);
        Check.due("no", x.about(0, 5), 98);
        Check.due("in place of those", x.vote(0, 1, 2), 1);
        Check.due("yes", x.about(0, 4), 1);
        Check.due("no", x.about(0, 5), 2);
        Check.due("decide", x.decide(0), 1);
        Check.due("not open", x.vote(0, 3, 3), -4);
        Check.due("RANGE ahead of STATE", x.vote(0, 100, 3), -2);
        Check.due("they stay", x.about(0, 4), 1);
    }

    private static int decided(String text, int yes, int no) {
        HereLived x = desk();
        rules(x, text);
        x.ask(0, 0, 1700);
        x.vote(0, yes, no);
        int state = x.decide(0);
        Check.due("about(0, 3)", x.about(0, 3), state);
        Check.due("nothing spoke against it", x.about(0, 6), 0);
        return state;
    }

    private static void deciding() {
        Check.due("2 votes of 3", decided("", 2, 0), 1);
        Check.due("3 votes of 3", decided("", 3, 0), 2);
        Check.due("half", decided("", 2, 2), 2);
        Check.due("less than half", decided("", 2, 3), 1);
        Check.due("2 of 3 are less than 67", decided("votes 0 67;", 2, 1), 1);
        Check.due("2 of 3 are not less than 66", decided("votes 0 66;", 2, 1), 2);
        Check.due("all of 100", decided("votes 1 100;", 99, 0), 2);
        Check.due("not all of 100", decided("votes 1 100;", 99, 1), 1);
        Check.due("none needed for", decided("votes 99 0;", 0, 99), 2);
        Check.due("no votes", decided("votes 0 0;", 0, 0), 2);
        Check.due("of no votes none are fewer", decided("votes 0 50;", 0, 0), 2);
        HereLived x = desk();
        Check.due("no such", x.decide(0), -2);
        x.ask(0, 0, 1660);
        x.ask(0, 0, 1700);
        x.ask(0, 0, 1700);
        Check.due("no such", x.decide(3), -2);
        Check.due("no such", x.decide(-1), -2);
        for (int a = 0; a < 3; a++) {
            x.vote(a, 9, 0);
            Check.due("ahead of it", x.about(a, 6), -1);
        }
        Check.due("dead for 10 years", x.decide(0), 1);
        Check.due("that spoke against it", x.about(0, 6), 1);
        Check.due("again", x.decide(0), -4);
        Check.due("granted", x.decide(1), 2);
        Check.due("again", x.decide(1), -4);
        x.falsify(0, true);
        Check.due("by papers as they are then", x.decide(2), 1);
        Check.due("those spoke against it", x.about(2, 6), 2 + 4 + 128);
        Check.due("the granted stays", x.about(1, 3), 2);
        Check.due("and what spoke then", x.about(1, 6), 0);
        Check.due("but now", x.against(1), 2 + 4 + 128);
    }

    private static void aboutAll() {
        HereLived x = desk();
        x.person(1700, 1750, 4);
        x.site(1600, 1600, 4, 4);
        x.ask(0, 0, 1600);
        int a = x.ask(1, 1, 1800);
        x.vote(a, 7, 8);
        int[] due = {1, 1, 1800, 0, 7, 8, -1, -1, -9};
        for (int what = 0; what < due.length; what++) {
            Check.due("about(1, " + what + ")", x.about(a, what), due[what]);
        }
        Check.due("about(1, -1)", x.about(a, -1), -9);
        Check.due("about(2, 0)", x.about(2, 0), -9);
        Check.due("about(-1, 0)", x.about(-1, 0), -9);
        Check.due("the first's year", x.about(0, 2), 1600);
    }
}
