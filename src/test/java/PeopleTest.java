/** Promises 8 (person), 9 (join), 10 (paper), 11 (falsify), 12 (lived). */
public final class PeopleTest {
    public static void main(String[] args) {
        persons();
        joins();
        paperRange();
        paperFull();
        falsified();
        livedAnswers();
        livedOfOne();
        livedBySources();
        livedOverRows();
        laterRenumbering();
        Check.end();
    }

    private static void persons() {
        HereLived x = new HereLived();
        Check.due("born 1499", x.person(1499, 1600, 0), -2);
        Check.due("born 2101", x.person(2101, -1, 0), -2);
        Check.due("died 2101", x.person(1500, 2101, 0), -2);
        Check.due("died below born", x.person(1700, 1699, 0), -2);
        Check.due("died -2", x.person(1700, -2, 0), -2);
        Check.due("died 0", x.person(1700, 0, 0), -2);
        Check.due("theme -1", x.person(1700, 1750, -1), -2);
        Check.due("theme 8", x.person(1700, 1750, 8), -2);
        Check.due("count(1)", x.count(1), 0);
        Check.due("died as born", x.person(1500, 1500, 0), 0);
        Check.due("alive", x.person(2100, -1, 7), 1);
        for (int p = 2; p < 30; p++) {
            Check.due("person " + p, x.person(1600, 2100, 3), p);
        }
        Check.due("person 31", x.person(1600, 1700, 3), -3);
        Check.due("RANGE ahead of FULL", x.person(1600, 1700, 8), -2);
        Check.due("count(1)", x.count(1), 30);
    }

    private static void joins() {
        HereLived x = new HereLived();
        Check.due("no such", x.join(0, 1), -2);
        for (int p = 0; p < 5; p++) {
            x.person(1600, 1700, 0);
        }
        Check.due("the same", x.join(2, 2), -2);
        Check.due("no such q", x.join(0, 5), -2);
        Check.due("no such p", x.join(-1, 0), -2);
        Check.due("join 0 1", x.join(0, 1), 1);
        Check.due("again", x.join(0, 1), 0);
        Check.due("turned", x.join(1, 0), 0);
        Check.due("join 2 3", x.join(2, 3), 1);
        Check.due("join the two", x.join(3, 1), 1);
        Check.due("0 and 2 by others", x.join(0, 2), 0);
        Check.due("0 and 3 by others", x.join(3, 0), 0);
        Check.due("4 stands alone", x.join(4, 2), 1);
        Check.due("4 and 0 now", x.join(4, 0), 0);
        Check.due("the same stays RANGE", x.join(4, 4), -2);
        Check.due("count(1)", x.count(1), 5);
    }

    private static void paperRange() {
        HereLived x = new HereLived();
        Check.due("no person", x.paper(0, 0, 0, 1, 1600, 1600), -2);
        x.person(1600, 1700, 0);
        Check.due("person 1", x.paper(1, 0, 0, 1, 1600, 1600), -2);
        Check.due("person -1", x.paper(-1, 0, 0, 1, 1600, 1600), -2);
        Check.due("source -1", x.paper(0, -1, 0, 1, 1600, 1600), -2);
        Check.due("source 6", x.paper(0, 6, 0, 1, 1600, 1600), -2);
        Check.due("street 10", x.paper(0, 0, 10, 1, 1600, 1600), -2);
        Check.due("number 0", x.paper(0, 0, 0, 0, 1600, 1600), -2);
        Check.due("number 1000", x.paper(0, 0, 0, 1000, 1600, 1600), -2);
        Check.due("from 1499", x.paper(0, 0, 0, 1, 1499, 1500), -2);
        Check.due("to 2101", x.paper(0, 0, 0, 1, 2100, 2101), -2);
        Check.due("from above to", x.paper(0, 0, 0, 1, 1601, 1600), -2);
        Check.due("61 years", x.paper(0, 0, 0, 1, 1600, 1660), -2);
        Check.due("all years", x.paper(0, 0, 0, 1, Integer.MIN_VALUE, Integer.MAX_VALUE), -2);
        Check.due("count(2)", x.count(2), 0);
        Check.due("60 years", x.paper(0, 5, 9, 999, 2041, 2100), 0);
        Check.due("one year, ahead of birth", x.paper(0, 0, 0, 1, 1500, 1500), 1);
        Check.due("count(2)", x.count(2), 2);
    }

    private static void paperFull() {
        HereLived x = new HereLived();
        x.person(1600, 1700, 0);
        for (int k = 0; k < 100; k++) {
            Check.due("paper " + k, x.paper(0, k % 6, 0, 1, 1600, 1600), k);
        }
        Check.due("paper 101", x.paper(0, 0, 0, 1, 1600, 1600), -3);
        Check.due("RANGE ahead of FULL", x.paper(0, 0, 0, 0, 1600, 1600), -2);
        Check.due("count(2)", x.count(2), 100);
        Check.due("falsify(99)", x.falsify(99, true), 1);
        Check.due("falsify(100)", x.falsify(100, true), -2);
    }

    private static void falsified() {
        HereLived x = new HereLived();
        x.site(1500, 1500, 0, 1);
        x.person(1600, 1700, 0);
        x.paper(0, 0, 0, 1, 1600, 1609);
        x.paper(0, 1, 0, 1, 1605, 1614);
        Check.due("falsify(-1)", x.falsify(-1, true), -2);
        Check.due("falsify(2)", x.falsify(2, false), -2);
        Check.due("wasn't", x.falsify(0, false), 0);
        Check.due("both", x.lived(0, 0, 0), 15);
        Check.due("is now", x.falsify(0, true), 1);
        Check.due("was", x.falsify(0, true), 0);
        Check.due("the other alone", x.lived(0, 0, 0), 10);
        Check.due("the other alone, possibly", x.lived(0, 0, 1), 10);
        Check.due("its source", x.lived(0, 0, 4), 1);
        Check.due("true again", x.falsify(0, false), 1);
        Check.due("both again", x.lived(0, 0, 1), 15);
    }

    private static void livedAnswers() {
        HereLived x = new HereLived();
        x.site(1600, 1610, 3, 5);
        x.renumber(0, 1700, 1710, 3, 6);
        x.person(1600, 1700, 0);
        Check.due("no papers, years", x.lived(0, 0, 0), 0);
        Check.due("no papers, possibly", x.lived(0, 0, 1), 0);
        Check.due("no papers, first", x.lived(0, 0, 2), -1);
        Check.due("no papers, last", x.lived(0, 0, 3), -1);
        Check.due("no papers, sources", x.lived(0, 0, 4), 0);
        x.paper(0, 2, 3, 5, 1590, 1649);
        x.paper(0, 2, 3, 5, 1690, 1720);
        Check.due("years", x.lived(0, 0, 0), 40 + 10);
        Check.due("possibly", x.lived(0, 0, 1), 50 + 20);
        Check.due("first", x.lived(0, 0, 2), 1610);
        Check.due("last", x.lived(0, 0, 3), 1699);
        Check.due("sources", x.lived(0, 0, 4), 1);
        Check.due("what 5", x.lived(0, 0, 5), -1);
        Check.due("what -1", x.lived(0, 0, -1), -1);
        Check.due("person 1", x.lived(1, 0, 0), -2);
        Check.due("person -1", x.lived(-1, 0, 0), -2);
        Check.due("site 1", x.lived(0, 1, 0), -2);
        Check.due("site -1", x.lived(0, -1, 0), -2);
        x.paper(0, 0, 3, 6, 1701, 1711);
        Check.due("by both numbers", x.lived(0, 0, 0), 52);
        Check.due("by both numbers, possibly", x.lived(0, 0, 1), 72);
        Check.due("last by both", x.lived(0, 0, 3), 1711);
        Check.due("sources of both", x.lived(0, 0, 4), 2);
    }

    private static void livedOfOne() {
        HereLived x = new HereLived();
        x.site(1500, 1500, 0, 1);
        x.person(1600, 1700, 0);
        x.person(1600, 1700, 0);
        x.person(1600, 1700, 0);
        x.paper(0, 0, 0, 1, 1620, 1629);
        x.paper(1, 1, 0, 1, 1625, 1634);
        x.paper(2, 1, 0, 1, 1650, 1650);
        Check.due("0 alone", x.lived(0, 0, 0), 10);
        x.join(0, 1);
        Check.due("0 with 1", x.lived(0, 0, 0), 15);
        Check.due("1 with 0", x.lived(1, 0, 0), 15);
        Check.due("2 alone", x.lived(2, 0, 0), 1);
        x.join(2, 1);
        Check.due("all, of 0", x.lived(0, 0, 0), 16);
        Check.due("all, of 2", x.lived(2, 0, 2), 1620);
        Check.due("all, of 1", x.lived(1, 0, 3), 1650);
        Check.due("sources of all", x.lived(2, 0, 4), 2);
    }

    /** A SOURCE counts by a year that its own PAPER makes sure, not by one that another PAPER does. */
    private static void livedBySources() {
        HereLived x = new HereLived();
        x.site(1500, 1500, 0, 1);
        x.renumber(0, 1600, 1650, 0, 2);
        x.person(1600, 1700, 0);
        x.paper(0, 0, 0, 1, 1590, 1599);
        x.paper(0, 1, 0, 1, 1600, 1649);
        x.paper(0, 2, 0, 2, 1640, 1649);
        Check.due("only possibly", x.lived(0, 0, 4), 1);
        Check.due("possibly in years", x.lived(0, 0, 1), 60);
        x.paper(0, 3, 0, 2, 1649, 1650);
        Check.due("one year is enough", x.lived(0, 0, 4), 2);
        x.paper(0, 3, 0, 2, 1660, 1660);
        Check.due("the same source", x.lived(0, 0, 4), 2);
        for (int source = 0; source < 6; source++) {
            x.paper(0, source, 0, 2, 1700, 1700);
        }
        Check.due("all six", x.lived(0, 0, 4), 6);
    }

    private static void livedOverRows() {
        HereLived x = new HereLived();
        x.site(1500, 1500, 0, 1);
        x.person(1600, 1700, 0);
        for (int from = 1500; from <= 2041; from += 41) {
            x.paper(0, 0, 0, 1, from, from + 59 > 2100 ? 2100 : from + 59);
        }
        Check.due("years", x.lived(0, 0, 0), 593);
        x.paper(0, 0, 0, 1, 2100, 2100);
        Check.due("with the last", x.lived(0, 0, 0), 594);
        Check.due("first", x.lived(0, 0, 2), 1500);
        Check.due("last", x.lived(0, 0, 3), 2100);
        x.paper(0, 0, 0, 1, 2041, 2100);
        Check.due("each year", x.lived(0, 0, 0), 601);
        Check.due("each year, possibly", x.lived(0, 0, 1), 601);
    }

    /** What is told of SITES later counts for PAPERS told before. */
    private static void laterRenumbering() {
        HereLived x = new HereLived();
        x.person(1600, 1700, 0);
        x.paper(0, 0, 0, 1, 1600, 1619);
        x.site(1500, 1500, 0, 1);
        Check.due("the site came later", x.lived(0, 0, 0), 20);
        x.renumber(0, 1610, 1615, 0, 0);
        Check.due("gone later", x.lived(0, 0, 0), 10);
        Check.due("gone later, possibly", x.lived(0, 0, 1), 15);
        x.site(1605, 1700, 0, 1);
        Check.due("another may be it", x.lived(0, 0, 0), 5);
        Check.due("another may be it, possibly", x.lived(0, 0, 1), 15);
        Check.due("the other, surely", x.lived(0, 1, 0), 0);
        Check.due("the other, possibly", x.lived(0, 1, 1), 15);
    }
}
