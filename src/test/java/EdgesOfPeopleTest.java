/** Promises 8 to 12, sentence by sentence: each that names an edge, with what is due at it and beside it. */
public final class EdgesOfPeopleTest {
    private static final int MIN = Integer.MIN_VALUE;
    private static final int MAX = Integer.MAX_VALUE;

    public static void main(String[] args) {
        atMostThirty();
        birthDeathTheme();
        personRefused();
        oneByTheOther();
        allThirtyAreOne();
        joinRefused();
        yearsAndThemeStay();
        atMostHundred();
        paperBounds();
        sixtyYears();
        paperRefused();
        foundFalse();
        falsifyRefused();
        livedSurely();
        livedPossibly();
        livedAtTheEnds();
        livedFirstAndLast();
        livedSources();
        livedOtherWhat();
        livedRefused();
        Check.end();
    }

    /** Site 0 is street 0 number 1 from 1500 on, site 1 number 2; persons 0 .. 2. */
    private static HereLived desk() {
        HereLived x = new HereLived();
        x.site(1500, 1500, 0, 1);
        x.site(1500, 1500, 0, 2);
        for (int p = 0; p < 3; p++) {
            x.person(1600, 1650, p);
        }
        return x;
    }

    private static void atMostThirty() {
        Check.says("PEOPLE, at most 30, numbered from 0");
        HereLived x = new HereLived();
        for (int p = 0; p < 30; p++) {
            Check.due("person " + p, x.person(1600, 1600 + p, p % 8), p);
            Check.due("refused, it takes no number", x.person(1600, 1599, 0), -2);
            Check.due("people", x.count(1), p + 1);
        }
        Check.due("the 31st", x.person(1600, 1650, 0), -3);
        Check.due("people", x.count(1), 30);
        Check.due("the 30th has papers", x.paper(29, 0, 0, 1, 1600, 1600), 0);
        Check.due("there is no 31st", x.paper(30, 0, 0, 1, 1600, 1600), -2);
    }

    private static void birthDeathTheme() {
        Check.says("a year of birth, of death (NONE: alive), a THEME 0 .. 7.");
        HereLived x = new HereLived();
        Check.due("1500, alive, 0", x.person(1500, -1, 0), 0);
        Check.due("2100, alive, 7", x.person(2100, -1, 7), 1);
        Check.due("1500 .. 2100", x.person(1500, 2100, 0), 2);
        Check.due("1500 .. 1500", x.person(1500, 1500, 7), 3);
        Check.due("2100 .. 2100", x.person(2100, 2100, 7), 4);
        for (int theme : new int[] {-1, 8, 10, MIN, MAX}) {
            Check.due("theme " + theme, x.person(1600, 1650, theme), -2);
        }
        for (int born : new int[] {1499, 2101, 0, -1, MIN, MAX}) {
            Check.due("alive, born " + born, x.person(born, -1, 0), -2);
            Check.due("dead, born " + born, x.person(born, 2100, 0), -2);
        }
        for (int died : new int[] {1499, 2101, 0, -2, -1500, MIN, MAX}) {
            Check.due("died " + died, x.person(1500, died, 0), -2);
        }
    }

    private static void personRefused() {
        Check.says("One of the PEOPLE comes: the number; RANGE: years (death NONE, or not below birth), THEME; FULL.");
        HereLived x = new HereLived();
        Check.due("died a year below birth", x.person(1600, 1599, 0), -2);
        Check.due("died in the year of birth", x.person(1600, 1600, 0), 0);
        for (int p = 1; p < 30; p++) {
            x.person(1600, 1650, 0);
        }
        Check.due("FULL", x.person(1600, 1650, 0), -3);
        Check.due("FULL, alive", x.person(1600, -1, 0), -3);
        Check.due("born, ahead of FULL", x.person(1499, 1650, 0), -2);
        Check.due("died, ahead of FULL", x.person(1600, 1599, 0), -2);
        Check.due("theme, ahead of FULL", x.person(1600, 1650, 8), -2);
    }

    private static void oneByTheOther() {
        Check.says("Two may be told to be ONE: all that are so (one by the other too) are ONE: papers, plaques, askings of any"
            + " of them are of all.");
        HereLived x = desk();
        x.paper(0, 0, 0, 1, 1610, 1610);
        x.paper(1, 1, 0, 1, 1611, 1611);
        x.paper(2, 2, 0, 1, 1612, 1612);
        Check.due("0 and 1", x.join(0, 1), 1);
        Check.due("1 and 2", x.join(1, 2), 1);
        Check.due("0 and 2 are ONE by 1", x.join(0, 2), 0);
        for (int p = 0; p < 3; p++) {
            Check.due("papers of all, by " + p, x.lived(p, 0, 0), 3);
        }
        Check.due("a plaque of 2", AskingsTest.hung(x, 2, 0, 1700), 0);
        Check.due("another of 0 on another site", x.against(x.ask(0, 1, 1700)) & 16, 16);
        HereLived y = desk();
        y.join(2, 0);
        Check.due("1 isn't one of them", y.join(1, 2), 1);
    }

    /** Pairs, then pairs of pairs, then all. */
    private static void allThirtyAreOne() {
        Check.says("Two of the PEOPLE are ONE: 1, 0 if they were");
        HereLived x = new HereLived();
        x.site(1500, 1500, 0, 1);
        for (int p = 0; p < 30; p++) {
            x.person(1600, 1650, 0);
            x.paper(p, p % 6, 0, 1, 1600 + p, 1600 + p);
        }
        for (int p = 0; p < 30; p += 2) {
            Check.due("join " + p, x.join(p + 1, p), 1);
            Check.due("again", x.join(p, p + 1), 0);
        }
        for (int p = 2; p < 30; p += 2) {
            Check.due("pairs not joined yet", x.lived(p, 0, 0), 2);
            Check.due("join with the pair ahead", x.join(p, p - 1), 1);
            Check.due("with the first pair now", x.join(0, p + 1), 0);
            Check.due("years of all so far", x.lived(p, 0, 0), p + 2);
        }
        Check.due("first and last", x.join(29, 0), 0);
        Check.due("all thirty", x.lived(17, 0, 0), 30);
    }

    private static void joinRefused() {
        Check.says("RANGE: no such, the same.");
        HereLived x = desk();
        for (int p : new int[] {-1, 3, 30, MIN, MAX}) {
            Check.due("join(" + p + ", 0)", x.join(p, 0), -2);
            Check.due("join(0, " + p + ")", x.join(0, p), -2);
            Check.due("join(" + p + ", " + p + ")", x.join(p, p), -2);
        }
        for (int p = 0; p < 3; p++) {
            Check.due("the same " + p, x.join(p, p), -2);
        }
        Check.due("none were joined", x.join(0, 1), 1);
        Check.due("the same, though ONE", x.join(1, 1), -2);
        Check.due("the last", x.join(2, 0), 1);
    }

    private static void yearsAndThemeStay() {
        Check.says("(Years, THEME stay each one's own.)");
        HereLived x = new HereLived();
        x.site(1500, 1500, 0, 1);
        x.person(1600, 1650, 0);
        x.person(1600, 1651, 1);
        x.person(1600, -1, 2);
        x.paper(0, 0, 0, 1, 1610, 1610);
        x.join(0, 1);
        x.join(1, 2);
        AskingsTest.rules(x, "theme 0 0;theme 2 0;");
        for (int p = 0; p < 3; p++) {
            x.ask(p, 0, 1670);
        }
        Check.due("dead for 20 years, of theme 0", x.against(0), 64);
        Check.due("dead for 19 years, of theme 1", x.against(1), 1);
        Check.due("alive, of theme 2", x.against(2), 1 + 64);
        Check.due("asked for 1, not for 0", x.about(1, 0), 1);
    }

    private static void atMostHundred() {
        Check.says("PAPERS, at most 100, numbered from 0");
        HereLived x = desk();
        for (int k = 0; k < 100; k++) {
            Check.due("paper " + k, x.paper(k % 3, k % 6, 0, 1, 1500 + k, 1500 + k), k);
            Check.due("papers", x.count(2), k + 1);
        }
        Check.due("the 101st", x.paper(0, 0, 0, 1, 1700, 1700), -3);
        Check.due("papers", x.count(2), 100);
        Check.due("it tells nothing", x.lived(0, 0, 3), 1599);
        Check.due("the 100th tells", x.lived(0, 0, 0), 34);
        Check.due("the 100th is false", x.falsify(99, true), 1);
        Check.due("and tells nothing", x.lived(0, 0, 3), 1596);
        Check.due("a false one gives no room", x.paper(0, 0, 0, 1, 1700, 1700), -3);
    }

    private static void paperBounds() {
        Check.says("of one of the PEOPLE, a SOURCE 0 .. 5, a STREET and number, years from .. to (60 at most).");
        HereLived x = desk();
        Check.due("lowest", x.paper(0, 0, 0, 1, 1500, 1500), 0);
        Check.due("highest", x.paper(2, 5, 9, 999, 2100, 2100), 1);
        Check.due("ahead of birth, behind death", x.paper(0, 5, 0, 999, 1590, 1649), 2);
        Check.due("of no site", x.paper(0, 0, 9, 1, 1600, 1600), 3);
        for (int p : new int[] {-1, 3, 30, MIN, MAX}) {
            Check.due("person " + p, x.paper(p, 0, 0, 1, 1600, 1600), -2);
        }
        for (int source : new int[] {-1, 6, 10, MIN, MAX}) {
            Check.due("source " + source, x.paper(0, source, 0, 1, 1600, 1600), -2);
        }
        for (int street : new int[] {-1, 10, MIN, MAX}) {
            Check.due("street " + street, x.paper(0, 0, street, 1, 1600, 1600), -2);
        }
        for (int number : new int[] {-1, 0, 1000, MIN, MAX}) {
            Check.due("number " + number, x.paper(0, 0, 0, number, 1600, 1600), -2);
        }
        Check.due("papers", x.count(2), 4);
    }

    private static void sixtyYears() {
        Check.says("years from .. to (60 at most)");
        HereLived x = desk();
        Check.due("61 years", x.paper(0, 0, 0, 1, 1600, 1660), -2);
        Check.due("601 years", x.paper(0, 0, 0, 1, 1500, 2100), -2);
        Check.due("from above to", x.paper(0, 0, 0, 1, 1601, 1600), -2);
        for (int y : new int[] {1499, 2101, 0, -1, MIN, MAX}) {
            Check.due("from " + y, x.paper(0, 0, 0, 1, y, 1500), -2);
            Check.due("to " + y, x.paper(0, 0, 0, 1, 2100, y), -2);
        }
        Check.due("a difference that wraps around", x.paper(0, 0, 0, 1, MAX, MIN), -2);
        Check.due("60 years from the first", x.paper(0, 0, 0, 1, 1500, 1559), 0);
        Check.due("60 years to the last", x.paper(1, 0, 0, 1, 2041, 2100), 1);
        Check.due("one year", x.paper(2, 0, 0, 1, 1700, 1700), 2);
        Check.due("60 years", x.lived(0, 0, 0), 60);
        Check.due("60 years", x.lived(1, 0, 0), 60);
        Check.due("one year", x.lived(2, 0, 0), 1);
    }

    private static void paperRefused() {
        Check.says("A PAPER: its number; RANGE: no such person, SOURCE, STREET, number, years; FULL.");
        HereLived x = desk();
        for (int k = 0; k < 100; k++) {
            x.paper(0, 0, 0, 1, 1600, 1600);
        }
        Check.due("FULL", x.paper(0, 0, 0, 1, 1600, 1600), -3);
        Check.due("person, ahead of FULL", x.paper(3, 0, 0, 1, 1600, 1600), -2);
        Check.due("source, ahead of FULL", x.paper(0, 6, 0, 1, 1600, 1600), -2);
        Check.due("street, ahead of FULL", x.paper(0, 0, 10, 1, 1600, 1600), -2);
        Check.due("number, ahead of FULL", x.paper(0, 0, 0, 0, 1600, 1600), -2);
        Check.due("years, ahead of FULL", x.paper(0, 0, 0, 1, 1600, 1660), -2);
    }

    private static void foundFalse() {
        Check.says("A PAPER is FALSE, or isn't: 1 if it was otherwise, else 0");
        HereLived x = desk();
        x.paper(0, 0, 0, 1, 1600, 1600);
        x.paper(0, 1, 0, 1, 1601, 1601);
        Check.due("it isn't, as it wasn't", x.falsify(0, false), 0);
        Check.due("it is", x.falsify(0, true), 1);
        Check.due("it is, as it was", x.falsify(0, true), 0);
        Check.due("the other tells alone", x.lived(0, 0, 2), 1601);
        Check.due("the other wasn't", x.falsify(1, false), 0);
        Check.due("it isn't any more", x.falsify(0, false), 1);
        Check.due("it tells again", x.lived(0, 0, 2), 1600);
        Check.due("nor twice", x.falsify(0, false), 0);
    }

    private static void falsifyRefused() {
        Check.says("1 if it was otherwise, else 0; RANGE.");
        HereLived x = desk();
        Check.due("there are none", x.falsify(0, true), -2);
        x.paper(0, 0, 0, 1, 1600, 1600);
        x.paper(0, 0, 0, 1, 1601, 1601);
        for (int k : new int[] {-1, 2, 99, 100, MIN, MAX}) {
            Check.due("falsify(" + k + ", true)", x.falsify(k, true), -2);
            Check.due("falsify(" + k + ", false)", x.falsify(k, false), -2);
        }
        Check.due("none is false", x.lived(0, 0, 0), 2);
        Check.due("the last", x.falsify(1, true), 1);
    }

    private static void livedSurely() {
        Check.says("one (with all that are ONE) lived SURELY in a SITE in each year that some PAPER of theirs that isn't FALSE"
            + " has, in which its number is SURELY that SITE");
        HereLived x = new HereLived();
        x.site(1600, 1610, 0, 1);
        x.renumber(0, 1650, 1660, 0, 2);
        x.person(1580, 1700, 0);
        Check.due("no papers", x.lived(0, 0, 0), 0);
        x.paper(0, 0, 0, 1, 1590, 1609);
        Check.due("up to a year ahead of to", x.lived(0, 0, 0), 0);
        x.paper(0, 0, 0, 1, 1610, 1610);
        Check.due("to", x.lived(0, 0, 0), 1);
        x.paper(0, 0, 0, 1, 1650, 1665);
        Check.due("from the next one's from on", x.lived(0, 0, 0), 1);
        x.paper(0, 0, 0, 1, 1649, 1649);
        Check.due("a year ahead of it", x.lived(0, 0, 0), 2);
        x.paper(0, 0, 0, 1, 1600, 1659);
        Check.due("a year counts once, whatever papers have it", x.lived(0, 0, 0), 40);
        x.paper(0, 0, 0, 2, 1655, 1661);
        Check.due("and by the next number", x.lived(0, 0, 0), 42);
        Check.due("not a number of another street", x.paper(0, 0, 1, 2, 1670, 1670), 6);
        Check.due("years", x.lived(0, 0, 0), 42);
        x.site(1620, 1700, 0, 1);
        Check.due("another may be it from 1620 on", x.lived(0, 0, 0), 12);
    }

    private static void livedPossibly() {
        Check.says("POSSIBLY likewise.");
        HereLived x = new HereLived();
        x.site(1600, 1610, 0, 1);
        x.renumber(0, 1650, 1660, 0, 2);
        x.site(1620, 1620, 0, 1);
        x.person(1580, 1700, 0);
        Check.due("no papers", x.lived(0, 0, 1), 0);
        x.paper(0, 0, 0, 1, 1590, 1599);
        Check.due("ahead of from", x.lived(0, 0, 1), 0);
        x.paper(0, 0, 0, 1, 1600, 1600);
        Check.due("from", x.lived(0, 0, 1), 1);
        x.paper(0, 0, 0, 1, 1660, 1665);
        Check.due("from the next one's to on", x.lived(0, 0, 1), 1);
        x.paper(0, 0, 0, 1, 1659, 1659);
        Check.due("a year ahead of it", x.lived(0, 0, 1), 2);
        x.paper(0, 0, 0, 1, 1610, 1659);
        Check.due("a year counts once", x.lived(0, 0, 1), 51);
        Check.due("of these surely", x.lived(0, 0, 0), 10);
        Check.due("the other, possibly", x.lived(0, 1, 1), 46);
        Check.due("the other, surely", x.lived(0, 1, 0), 6);
        for (int k = 0; k < 5; k++) {
            x.falsify(k, true);
        }
        Check.due("all are false", x.lived(0, 0, 1), 0);
    }

    /** The first and the last of all years, and papers that go over every year between. */
    private static void livedAtTheEnds() {
        Check.says("YEARS 1500 .. 2100.");
        HereLived x = desk();
        x.paper(0, 0, 0, 1, 1500, 1500);
        Check.due("the first", x.lived(0, 0, 2), 1500);
        Check.due("the first is the last", x.lived(0, 0, 3), 1500);
        x.paper(0, 0, 0, 1, 2100, 2100);
        Check.due("the last", x.lived(0, 0, 3), 2100);
        Check.due("two years", x.lived(0, 0, 0), 2);
        for (int from = 1500; from <= 2040; from += 60) {
            x.paper(1, 0, 0, 2, from, from + 59);
        }
        Check.due("600 years", x.lived(1, 1, 0), 600);
        x.paper(1, 0, 0, 2, 2100, 2100);
        Check.due("each year", x.lived(1, 1, 0), 601);
        Check.due("each year, possibly", x.lived(1, 1, 1), 601);
        for (int y = 1500; y <= 1579; y++) {
            x.paper(2, 0, 0, 1, y, y);
            Check.due("the last so far", x.lived(2, 0, 3), y);
            Check.due("years so far", x.lived(2, 0, 0), y - 1499);
        }
        Check.due("the first", x.lived(2, 0, 2), 1500);
    }

    private static void livedFirstAndLast() {
        Check.says("LIVED in a SITE, what 0: years SURELY, 1: years POSSIBLY, 2: the first SURELY (NONE), 3: the last SURELY"
            + " (NONE)");
        HereLived x = new HereLived();
        x.site(1600, 1610, 0, 1);
        x.person(1580, 1700, 0);
        Check.due("no papers, first", x.lived(0, 0, 2), -1);
        Check.due("no papers, last", x.lived(0, 0, 3), -1);
        x.paper(0, 0, 0, 1, 1600, 1609);
        Check.due("possibly alone, first", x.lived(0, 0, 2), -1);
        Check.due("possibly alone, last", x.lived(0, 0, 3), -1);
        x.paper(0, 0, 0, 1, 1605, 1610);
        Check.due("one year, first", x.lived(0, 0, 2), 1610);
        Check.due("one year, last", x.lived(0, 0, 3), 1610);
        x.paper(0, 0, 0, 1, 1663, 1664);
        Check.due("years apart, first", x.lived(0, 0, 2), 1610);
        Check.due("years apart, last", x.lived(0, 0, 3), 1664);
        Check.due("years surely", x.lived(0, 0, 0), 3);
        Check.due("years possibly", x.lived(0, 0, 1), 13);
        x.falsify(1, true);
        Check.due("without the first", x.lived(0, 0, 2), 1663);
        x.falsify(2, true);
        Check.due("without any", x.lived(0, 0, 3), -1);
    }

    private static void livedSources() {
        Check.says("4: unlike SOURCES (as 4 of ASKINGS).");
        HereLived x = new HereLived();
        x.site(1600, 1610, 0, 1);
        x.person(1580, 1700, 0);
        Check.due("no papers", x.lived(0, 0, 4), 0);
        x.paper(0, 0, 0, 1, 1600, 1609);
        Check.due("possibly alone", x.lived(0, 0, 4), 0);
        x.paper(0, 0, 0, 1, 1601, 1610);
        Check.due("one year surely", x.lived(0, 0, 4), 1);
        x.paper(0, 1, 0, 1, 1600, 1609);
        Check.due("another, possibly alone", x.lived(0, 0, 4), 1);
        x.paper(0, 0, 0, 1, 1650, 1650);
        Check.due("the same source", x.lived(0, 0, 4), 1);
        for (int source = 1; source < 6; source++) {
            x.paper(0, source, 0, 1, 1650, 1650);
            Check.due("sources 0 .. " + source, x.lived(0, 0, 4), source + 1);
        }
        x.falsify(3, true);
        Check.due("source 0 has another paper", x.lived(0, 0, 4), 6);
        x.falsify(1, true);
        Check.due("source 0 has none", x.lived(0, 0, 4), 5);
    }

    private static void livedOtherWhat() {
        Check.says("NONE for another what");
        HereLived x = desk();
        x.paper(0, 0, 0, 1, 1600, 1609);
        for (int what : new int[] {-1, 5, 6, 10, MIN, MAX}) {
            Check.due("lived(0, 0, " + what + ")", x.lived(0, 0, what), -1);
        }
    }

    private static void livedRefused() {
        Check.says("RANGE: no such person, SITE.");
        HereLived x = desk();
        for (int none : new int[] {-1, 3, 30, 40, MIN, MAX}) {
            for (int what = 0; what <= 4; what++) {
                Check.due("lived(" + none + ", 0, " + what + ")", x.lived(none, 0, what), -2);
                Check.due("lived(0, " + none + ", " + what + ")", x.lived(0, none, what), -2);
            }
        }
        Check.due("site 2", x.lived(0, 2, 0), -2);
        Check.due("the last of both", x.lived(2, 1, 0), 0);
        Check.due("no such person, and another what", x.lived(3, 0, 5), -2);
        Check.due("no such site, and another what", x.lived(0, 2, -1), -2);
    }
}
