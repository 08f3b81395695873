/** Promises 4 (site), 5 (renumber), 6 (possible), 7 (surely). */
public final class SitesTest {
    public static void main(String[] args) {
        siteRange();
        siteFull();
        renumberRange();
        renumberFull();
        spans();
        twoSites();
        sameNumberAgain();
        fortyBits();
        askedOutOfRange();
        Check.end();
    }

    private static void siteRange() {
        HereLived x = new HereLived();
        Check.due("from 1499", x.site(1499, 1500, 0, 1), -2);
        Check.due("to 2101", x.site(2100, 2101, 0, 1), -2);
        Check.due("from above to", x.site(1701, 1700, 0, 1), -2);
        Check.due("street -1", x.site(1700, 1700, -1, 1), -2);
        Check.due("street 10", x.site(1700, 1700, 10, 1), -2);
        Check.due("number 0", x.site(1700, 1700, 0, 0), -2);
        Check.due("number 1000", x.site(1700, 1700, 0, 1000), -2);
        Check.due("wild", x.site(Integer.MIN_VALUE, Integer.MAX_VALUE, 0, 1), -2);
        Check.due("count(0)", x.count(0), 0);
        Check.due("lowest", x.site(1500, 1500, 0, 1), 0);
        Check.due("highest", x.site(2100, 2100, 9, 999), 1);
        Check.due("widest", x.site(1500, 2100, 9, 999), 2);
        Check.due("count(0)", x.count(0), 3);
        Check.due("count(12)", x.count(12), 1);
        Check.due("count(13)", x.count(13), -1);
    }

    private static void siteFull() {
        HereLived x = new HereLived();
        for (int s = 0; s < 40; s++) {
            Check.due("site " + s, x.site(1500 + s, 1600, 1, 1), s);
        }
        Check.due("site 41", x.site(1500, 1600, 1, 1), -3);
        Check.due("RANGE ahead of FULL", x.site(1500, 1600, 1, 0), -2);
        Check.due("count(0)", x.count(0), 40);
        Check.due("count(49)", x.count(49), 1);
        Check.due("count(50)", x.count(50), -1);
    }

    private static void renumberRange() {
        HereLived x = new HereLived();
        Check.due("no site", x.renumber(0, 1700, 1700, 0, 1), -2);
        x.site(1600, 1610, 0, 1);
        Check.due("site 1", x.renumber(1, 1700, 1700, 0, 1), -2);
        Check.due("site -1", x.renumber(-1, 1700, 1700, 0, 1), -2);
        Check.due("from not above to", x.renumber(0, 1610, 1620, 0, 2), -2);
        Check.due("from above to", x.renumber(0, 1620, 1619, 0, 2), -2);
        Check.due("to 2101", x.renumber(0, 1620, 2101, 0, 2), -2);
        Check.due("street 10", x.renumber(0, 1620, 1620, 10, 2), -2);
        Check.due("street -1", x.renumber(0, 1620, 1620, -1, 2), -2);
        Check.due("number 1000", x.renumber(0, 1620, 1620, 0, 1000), -2);
        Check.due("number -1", x.renumber(0, 1620, 1620, 0, -1), -2);
        Check.due("count(10)", x.count(10), 1);
        Check.due("right behind", x.renumber(0, 1611, 1620, 9, 999), 2);
        Check.due("gone, any street", x.renumber(0, 1621, 1621, Integer.MIN_VALUE, 0), 3);
        Check.due("gone already", x.renumber(0, 1700, 1700, 0, 1), -2);
        Check.due("gone twice", x.renumber(0, 1700, 1700, 0, 0), -2);
        Check.due("count(10)", x.count(10), 3);
    }

    private static void renumberFull() {
        HereLived x = new HereLived();
        x.site(1500, 1500, 0, 1);
        x.site(1500, 1500, 0, 1);
        for (int n = 2; n <= 8; n++) {
            Check.due("numbering " + n, x.renumber(0, 1500 + n, 1500 + n, 0, n), n);
        }
        Check.due("numbering 9", x.renumber(0, 1600, 1600, 0, 9), -3);
        Check.due("gone as the 9th", x.renumber(0, 1600, 1600, 0, 0), -3);
        Check.due("RANGE ahead of FULL", x.renumber(0, 1508, 1600, 0, 9), -2);
        Check.due("count(10)", x.count(10), 8);
        Check.due("count(11)", x.count(11), 1);
        Check.due("surely the last", x.surely(0, 8, 2100), 0);
        Check.due("surely of the other", x.surely(0, 1, 1502), 1);
    }

    private static void spans() {
        HereLived x = new HereLived();
        x.site(1600, 1610, 3, 5);
        x.renumber(0, 1700, 1710, 4, 6);
        x.renumber(0, 1800, 1810, 0, 0);
        int[] years = {1599, 1600, 1609, 1610, 1699, 1700, 1709, 1710};
        int[] maybe = {0, 1, 1, 1, 1, 1, 1, 0};
        int[] sure = {-1, -1, -1, 0, 0, -1, -1, -1};
        for (int i = 0; i < years.length; i++) {
            Check.due("possible(3, 5) in " + years[i], x.possible(3, 5, years[i]), maybe[i]);
            Check.due("surely(3, 5) in " + years[i], x.surely(3, 5, years[i]), sure[i]);
            Check.due("possible(4, 6) in " + (years[i] + 100), x.possible(4, 6, years[i] + 100), maybe[i]);
            Check.due("surely(4, 6) in " + (years[i] + 100), x.surely(4, 6, years[i] + 100), sure[i]);
        }
        Check.due("another street", x.possible(4, 5, 1650), 0);
        Check.due("another number", x.possible(3, 6, 1650), 0);
    }

    private static void twoSites() {
        HereLived x = new HereLived();
        x.site(1600, 1600, 0, 5);
        x.renumber(0, 1700, 1720, 0, 9);
        x.site(1710, 1715, 0, 5);
        Check.due("possible 1709", x.possible(0, 5, 1709), 1);
        Check.due("possible 1710", x.possible(0, 5, 1710), 3);
        Check.due("possible 1719", x.possible(0, 5, 1719), 3);
        Check.due("possible 1720", x.possible(0, 5, 1720), 2);
        Check.due("surely 1699", x.surely(0, 5, 1699), 0);
        Check.due("surely 1705", x.surely(0, 5, 1705), -1);
        Check.due("surely 1719", x.surely(0, 5, 1719), -1);
        Check.due("surely 1720", x.surely(0, 5, 1720), 1);
        x.site(1720, 1730, 0, 5);
        Check.due("a third may be it", x.surely(0, 5, 1720), -1);
        Check.due("both surely", x.surely(0, 5, 1730), -1);
        Check.due("possible both", x.possible(0, 5, 2100), 6);
    }

    /** In the span of a change from a number to itself neither NUMBERING SURELY holds. */
    private static void sameNumberAgain() {
        HereLived x = new HereLived();
        x.site(1600, 1600, 0, 5);
        x.renumber(0, 1700, 1710, 0, 5);
        Check.due("possible", x.possible(0, 5, 1705), 1);
        Check.due("surely in the span", x.surely(0, 5, 1705), -1);
        Check.due("surely behind", x.surely(0, 5, 1710), 0);
    }

    private static void fortyBits() {
        HereLived x = new HereLived();
        for (int s = 0; s < 40; s++) {
            x.site(1500 + s, 1500 + s, 2, 7);
        }
        Check.due("all forty", x.possible(2, 7, 2100), (1L << 40) - 1);
        Check.due("but the last", x.possible(2, 7, 1538), (1L << 39) - 1);
        Check.due("the first alone", x.surely(2, 7, 1500), 0);
        x.renumber(39, 1600, 1600, 2, 8);
        Check.due("the last alone", x.possible(2, 8, 1600), 1L << 39);
        Check.due("surely the last", x.surely(2, 8, 1600), 39);
    }

    private static void askedOutOfRange() {
        HereLived x = new HereLived();
        x.site(1500, 1500, 0, 1);
        int[][] wrong = {{-1, 1, 1600}, {10, 1, 1600}, {0, 0, 1600}, {0, -1, 1600}, {0, 1000, 1600}, {0, 1, 1499},
            {0, 1, 2101}, {Integer.MIN_VALUE, 1, 1600}, {0, Integer.MAX_VALUE, 1600}, {0, 1, Integer.MIN_VALUE}};
        for (int[] w : wrong) {
            Check.due("possible, RANGE", x.possible(w[0], w[1], w[2]), -2);
            Check.due("surely, RANGE", x.surely(w[0], w[1], w[2]), -2);
        }
        Check.due("first year", x.surely(0, 1, 1500), 0);
        Check.due("last year", x.surely(0, 1, 2100), 0);
    }
}
