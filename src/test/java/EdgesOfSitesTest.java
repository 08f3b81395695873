/** Promises 1 to 7, sentence by sentence: each that names an edge, with what is due at it and beside it. */
public final class EdgesOfSitesTest {
    private static final int MIN = Integer.MIN_VALUE;
    private static final int MAX = Integer.MAX_VALUE;

    public static void main(String[] args) {
        newObject();
        newBesideAFullOne();
        feedOrder();
        feedFull();
        tapeIsEmptied();
        tapeStays();
        endCuts();
        endRefused();
        years();
        atMostForty();
        streetsAndNumbers();
        fromNotAboveTo();
        spansInOrder();
        atMostEight();
        siteRefused();
        renumberCounts();
        goneNeedsNoStreet();
        goneStaysGone();
        renumberRefused();
        mayHold();
        surelyHolds();
        possiblyEach();
        surelyAlone();
        possibleRefused();
        surelyRefused();
        Check.end();
    }

    private static void newObject() {
        Check.says("No SITES, PEOPLE, PAPERS; RULES as they are without a text.");
        HereLived x = new HereLived();
        for (int what = 0; what <= 5; what++) {
            Check.due("count(" + what + ")", x.count(what), 0);
        }
        Check.due("renumber(0, ..)", x.renumber(0, 1600, 1600, 0, 1), -2);
        Check.due("ask(0, 0, ..)", x.ask(0, 0, 1600), -2);
        Check.due("paper(0, ..)", x.paper(0, 0, 0, 1, 1600, 1600), -2);
        Check.due("falsify(0, ..)", x.falsify(0, true), -2);
        Check.due("join(0, 1)", x.join(0, 1), -2);
        Check.due("lived(0, 0, 0)", x.lived(0, 0, 0), -2);
        Check.due("possible", x.possible(0, 1, 1600), 0);
        Check.due("surely", x.surely(0, 1, 1600), -1);
        rulesAreUntold(x);
    }

    private static void rulesAreUntold(HereLived x) {
        int[] due = {20, 1, 1, 999, 1, 3, 50, 66};
        for (int what = 0; what < 8; what++) {
            Check.due("rule(" + what + ")", x.rule(what), due[what]);
            Check.due("rule(" + (10 + what) + ")", x.rule(10 + what), -1);
        }
    }

    /** Objects share nothing. */
    private static void newBesideAFullOne() {
        Check.says("No SITES, PEOPLE, PAPERS; RULES as they are without a text.");
        HereLived full = new HereLived();
        for (int i = 0; i < 40; i++) {
            full.site(1500, 1500, 0, 1);
            full.person(1600, 1650, 0);
        }
        Check.tell(full, "dead 1;lived 2;sources 3;span 4;one no;votes 5 6;down 7;theme 0 8;");
        Check.due("rules", full.rules(), 8);
        full.feed(1, 2, 3, 4, 5);
        HereLived x = new HereLived();
        Check.due("count(0)", x.count(0), 0);
        Check.due("count(1)", x.count(1), 0);
        Check.due("count(5)", x.count(5), 0);
        Check.due("possible", x.possible(0, 1, 1600), 0);
        rulesAreUntold(x);
        x.site(1500, 1500, 9, 9);
        Check.due("the full one knows nothing of it", full.possible(9, 9, 1600), 0);
    }

    /** A sign that no text goes on with, alone among blanks: the fault's place tells where it came. */
    private static void feedOrder() {
        Check.says("Twenty bytes come behind THE TAPE, the highest of each int first: how many it has");
        for (int ahead = 0; ahead < 600; ahead += 580) {
            for (int at = 0; at < 20; at++) {
                HereLived x = new HereLived();
                for (int n = 0; n < ahead; n += 20) {
                    x.feed(0x20202020, 0x0a0a0a0a, 0x20202020, 0x20202020, 0x20202020);
                }
                int[] ints = {0x20202020, 0x20202020, 0x20202020, 0x20202020, 0x20202020};
                ints[at / 4] ^= 0xdf << (24 - 8 * (at % 4));
                Check.due("feed", x.feed(ints[0], ints[1], ints[2], ints[3], ints[4]), ahead + 20);
                Check.due("rules", x.rules(), -1);
                Check.due("where byte 255 stands", x.fault(1), ahead + at);
            }
        }
    }

    private static HereLived blankTape(int n) {
        HereLived x = new HereLived();
        for (int i = 0; i < n; i += 20) {
            x.feed(0x20202020, 0x20202020, 0x20202020, 0x20202020, 0x20202020);
        }
        Check.due("end(" + n + ")", x.end(n), n);
        return x;
    }

    private static void feedFull() {
        Check.says("FULL when there would be more than 600.");
        Check.due("580 and 20", blankTape(580).feed(-1, -1, -1, -1, -1), 600);
        Check.due("579 and 20", blankTape(579).feed(-1, -1, -1, -1, -1), 599);
        for (int n : new int[] {581, 599, 600}) {
            HereLived x = blankTape(n);
            Check.due(n + " and 20", x.feed(-1, -1, -1, -1, -1), -3);
            Check.due("bytes", x.count(5), n);
            Check.due("again", x.feed(-1, -1, -1, -1, -1), -3);
            Check.due("blanks as before", x.rules(), 0);
            Check.due("room again", x.feed(-1, -1, -1, -1, -1), 20);
        }
    }

    private static void tapeIsEmptied() {
        Check.says("THE TAPE has at most 600 bytes; each call that reads it empties it.");
        HereLived most = blankTape(600);
        Check.due("600 bytes", most.count(5), 600);
        Check.due("600 blanks", most.rules(), 0);
        Check.due("none", most.count(5), 0);
        HereLived x = AskingsTest.desk();
        x.ask(0, 0, 1700);
        String[] texts = {"", "dead 7;", "dead", " "};
        for (String text : texts) {
            Check.tell(x, text);
            x.rules();
            Check.due("bytes behind rules of [" + text + "]", x.count(5), 0);
        }
        x.vote(0, 9, 0);
        Check.tell(x, "Here");
        Check.due("hang an open one", x.hang(0, 400, 8), -4);
        Check.due("bytes behind STATE", x.count(5), 0);
        x.decide(0);
        String[] words = {"", "\t", "1234", "mmmm"};
        int[] answers = {-1, -1, -5, -3};
        for (int i = 0; i < words.length; i++) {
            Check.tell(x, words[i]);
            Check.due("hang [" + words[i] + "]", x.hang(0, 20, 1), answers[i]);
            Check.due("bytes behind it", x.count(5), 0);
        }
        Check.tell(x, "Here");
        Check.due("hang", x.hang(0, 400, 8), 1);
        Check.due("bytes behind it", x.count(5), 0);
    }

    /** Calls that don't read THE TAPE leave it. */
    private static void tapeStays() {
        Check.says("each call that reads it empties it");
        HereLived x = AskingsTest.desk();
        Check.tell(x, "dead 7;");
        x.site(1600, 1600, 0, 2);
        x.renumber(1, 1700, 1700, 0, 3);
        x.possible(0, 2, 1650);
        x.surely(0, 2, 1650);
        x.person(1600, 1650, 0);
        x.join(0, 1);
        x.paper(0, 0, 0, 2, 1650, 1650);
        x.falsify(1, true);
        x.lived(0, 0, 0);
        x.fault(0);
        x.rule(0);
        x.ask(0, 0, 1700);
        x.against(0);
        x.vote(0, 9, 0);
        x.decide(0);
        x.line(0, 0);
        x.wide(0, 0);
        x.down(0, 1, 0);
        x.about(0, 0);
        x.doubtful();
        Check.due("bytes", x.count(5), 7);
        Check.due("rules", x.rules(), 1);
        Check.due("dead", x.rule(0), 7);
    }

    private static void endCuts() {
        Check.says("THE TAPE has its first n bytes alone: n");
        HereLived x = new HereLived();
        Check.due("end(0) of none", x.end(0), 0);
        x.feed(Check.four("dead", 0), Check.four(" 12;", 0), Check.four("live", 0), Check.four("d 3;", 0), 0x20202020);
        Check.due("end(20) of 20", x.end(20), 20);
        Check.due("end(19)", x.end(19), 19);
        Check.due("end(6)", x.end(6), 6);
        x.feed(0x3b202020, 0x20202020, 0x20202020, 0x20202020, 0x20202020);
        Check.due("bytes", x.count(5), 26);
        Check.due("what was cut is gone", x.rules(), 1);
        Check.due("dead 1", x.rule(0), 1);
        Check.due("lived isn't told", x.rule(1), 1);
        x.feed(-1, -1, -1, -1, -1);
        Check.due("end(0)", x.end(0), 0);
        Check.due("an empty text", x.rules(), 0);
    }

    private static void endRefused() {
        Check.says("NONE when it has not so many, or n is below 0.");
        HereLived x = new HereLived();
        Check.due("end(1) of none", x.end(1), -1);
        Check.due("end(-1) of none", x.end(-1), -1);
        x.feed(-1, -1, -1, -1, -1);
        for (int n : new int[] {21, 600, 601, MAX, -1, -20, MIN}) {
            Check.due("end(" + n + ")", x.end(n), -1);
            Check.due("bytes", x.count(5), 20);
        }
        HereLived full = blankTape(600);
        Check.due("end(601)", full.end(601), -1);
        Check.due("end(600)", full.end(600), 600);
    }

    private static void years() {
        Check.says("YEARS 1500 .. 2100.");
        HereLived x = new HereLived();
        Check.due("site 1500", x.site(1500, 1500, 0, 1), 0);
        Check.due("site 2100", x.site(2100, 2100, 0, 2), 1);
        Check.due("site 1500 .. 2100", x.site(1500, 2100, 0, 3), 2);
        Check.due("renumber 2100", x.renumber(0, 2100, 2100, 0, 4), 2);
        Check.due("nothing comes behind 2100", x.renumber(0, 2101, 2101, 0, 5), -2);
        for (int y : new int[] {1499, 2101, 0, -1, MIN, MAX}) {
            Check.due("site from " + y, x.site(y, 2100, 0, 1), -2);
            Check.due("site to " + y, x.site(1500, y, 0, 1), -2);
            Check.due("site in " + y, x.site(y, y, 0, 1), -2);
            Check.due("renumber from " + y, x.renumber(0, y, 2100, 0, 1), -2);
            Check.due("renumber to " + y, x.renumber(0, 1600, y, 0, 1), -2);
            Check.due("possible in " + y, x.possible(0, 1, y), -2);
            Check.due("surely in " + y, x.surely(0, 1, y), -2);
        }
        Check.due("possible in 1500", x.possible(0, 1, 1500), 1);
        Check.due("possible in 2100", x.possible(0, 4, 2100), 1);
        Check.due("surely in 1500", x.surely(0, 1, 1500), 0);
        Check.due("surely in 2100", x.surely(0, 4, 2100), 0);
    }

    private static void atMostForty() {
        Check.says("SITES, at most 40, numbered from 0 as they come.");
        HereLived x = new HereLived();
        for (int s = 0; s < 40; s++) {
            Check.due("site " + s, x.site(1600, 1600, s % 10, 1 + s), s);
            Check.due("refused, it takes no number", x.site(1600, 1600, 10, 1), -2);
        }
        Check.due("the 41st", x.site(1600, 1600, 0, 999), -3);
        Check.due("sites", x.count(0), 40);
        Check.due("it isn't there", x.possible(0, 999, 1700), 0);
        Check.due("nor surely", x.surely(0, 999, 1700), -1);
        Check.due("the 40th", x.surely(9, 40, 1700), 39);
        Check.due("the first", x.surely(0, 1, 1700), 0);
        Check.due("the 40th is renumbered", x.renumber(39, 1700, 1700, 9, 41), 2);
        Check.due("there is no 41st", x.renumber(40, 1700, 1700, 9, 41), -2);
    }

    private static void streetsAndNumbers() {
        Check.says("from a year on it has a number (1 .. 999) of a STREET 0 .. 9, or none any more (0: it is gone)");
        HereLived x = new HereLived();
        x.site(1500, 1500, 0, 1);
        for (int street : new int[] {-1, 10, 99, MIN, MAX}) {
            Check.due("site in street " + street, x.site(1600, 1600, street, 1), -2);
            Check.due("renumber to street " + street, x.renumber(0, 1600, 1600, street, 1), -2);
        }
        for (int number : new int[] {-1, 1000, MIN, MAX}) {
            Check.due("site of number " + number, x.site(1600, 1600, 0, number), -2);
            Check.due("renumber to number " + number, x.renumber(0, 1600, 1600, 0, number), -2);
        }
        Check.due("a site begins with a number", x.site(1600, 1600, 0, 0), -2);
        Check.due("sites", x.count(0), 1);
        Check.due("numberings", x.count(10), 1);
        Check.due("site 9, 999", x.site(1600, 1600, 9, 999), 1);
        Check.due("site 9, 1", x.site(1600, 1600, 9, 1), 2);
        Check.due("site 0, 999", x.site(1600, 1600, 0, 999), 3);
        Check.due("renumber 9, 999", x.renumber(0, 1600, 1600, 9, 999), 2);
        Check.due("renumber 0, 1", x.renumber(0, 1601, 1601, 0, 1), 3);
        Check.due("renumber 0", x.renumber(0, 1602, 1602, 0, 0), 4);
        Check.due("it had 0, 1", x.surely(0, 1, 1601), 0);
        Check.due("it is gone", x.possible(0, 1, 1602), 0);
    }

    private static void fromNotAboveTo() {
        Check.says("the year of the change lies within a span from .. to (from not above to)");
        HereLived x = new HereLived();
        Check.due("1601 .. 1600", x.site(1601, 1600, 0, 1), -2);
        Check.due("1600 .. 1600", x.site(1600, 1600, 0, 1), 0);
        Check.due("1600 .. 1601", x.site(1600, 1601, 0, 1), 1);
        Check.due("1701 .. 1700", x.renumber(0, 1701, 1700, 0, 2), -2);
        Check.due("1700 .. 1700", x.renumber(0, 1700, 1700, 0, 2), 2);
        Check.due("1701 .. 1702", x.renumber(0, 1701, 1702, 0, 2), 3);
    }

    private static void spansInOrder() {
        Check.says("told in order, each span's from above the to of the one before (of the same SITE).");
        HereLived x = new HereLived();
        x.site(1600, 1610, 0, 1);
        x.site(1800, 1900, 0, 1);
        Check.due("from as the first's from", x.renumber(0, 1600, 1700, 0, 2), -2);
        Check.due("from within it", x.renumber(0, 1605, 1700, 0, 2), -2);
        Check.due("from as its to", x.renumber(0, 1610, 1700, 0, 2), -2);
        Check.due("ahead of it", x.renumber(0, 1500, 1599, 0, 2), -2);
        Check.due("gone as its to", x.renumber(0, 1610, 1700, 0, 0), -2);
        Check.due("above its to, though below another site's", x.renumber(0, 1611, 1620, 0, 2), 2);
        Check.due("behind the first, not the second", x.renumber(0, 1615, 1630, 0, 3), -2);
        Check.due("as the second's to", x.renumber(0, 1620, 1630, 0, 3), -2);
        Check.due("above the second's to", x.renumber(0, 1621, 1621, 0, 3), 3);
        Check.due("the other by its own", x.renumber(1, 1900, 1901, 0, 3), -2);
        Check.due("the other by its own", x.renumber(1, 1901, 1901, 0, 3), 2);
    }

    private static void atMostEight() {
        Check.says("At most 8 a SITE.");
        HereLived x = new HereLived();
        x.site(1600, 1600, 0, 1);
        x.site(1600, 1600, 1, 1);
        for (int n = 2; n <= 8; n++) {
            Check.due("numbering " + n, x.renumber(0, 1600 + n, 1600 + n, 0, n), n);
        }
        Check.due("the 9th", x.renumber(0, 1700, 1700, 0, 9), -3);
        Check.due("the 9th, gone", x.renumber(0, 1700, 1700, 0, 0), -3);
        Check.due("numberings", x.count(10), 8);
        Check.due("the 8th holds", x.surely(0, 8, 2100), 0);
        Check.due("the other has room", x.renumber(1, 1700, 1700, 1, 2), 2);
        Check.due("the other's numberings", x.count(11), 2);
        HereLived y = new HereLived();
        y.site(1600, 1600, 0, 1);
        for (int n = 2; n <= 7; n++) {
            y.renumber(0, 1600 + n, 1600 + n, 0, n);
        }
        Check.due("the 8th, gone", y.renumber(0, 1700, 1700, 0, 0), 8);
        Check.due("gone and full", y.renumber(0, 1800, 1800, 0, 1), -2);
    }

    private static void siteRefused() {
        Check.says("A SITE comes, with a first NUMBERING: its number; RANGE: years, STREET, number 1 .. 999; FULL.");
        HereLived x = new HereLived();
        for (int s = 0; s < 40; s++) {
            Check.due("site " + s, x.site(1500 + s, 2100 - s, 5, 7), s);
            Check.due("its numberings", x.count(10 + s), 1);
        }
        Check.due("FULL", x.site(1600, 1600, 5, 7), -3);
        Check.due("years, ahead of FULL", x.site(1601, 1600, 5, 7), -2);
        Check.due("street, ahead of FULL", x.site(1600, 1600, 10, 7), -2);
        Check.due("number 0, ahead of FULL", x.site(1600, 1600, 5, 0), -2);
        Check.due("number 1000, ahead of FULL", x.site(1600, 1600, 5, 1000), -2);
    }

    private static void renumberCounts() {
        Check.says("A NUMBERING of a SITE behind the ones that it has (number 0: it is gone; the STREET doesn't matter then): how"
            + " many");
        HereLived x = new HereLived();
        x.site(1600, 1600, 0, 1);
        Check.due("how many", x.renumber(0, 1700, 1700, 0, 2), 2);
        Check.due("how many", x.renumber(0, 1800, 1800, 0, 3), 3);
        Check.due("refused", x.renumber(0, 1800, 1800, 0, 4), -2);
        Check.due("how many", x.renumber(0, 1900, 1900, 0, 0), 4);
        Check.due("count(10)", x.count(10), 4);
    }

    private static void goneNeedsNoStreet() {
        Check.says("(number 0: it is gone; the STREET doesn't matter then)");
        for (int street : new int[] {0, 9, 10, -1, MIN, MAX}) {
            HereLived x = new HereLived();
            x.site(1600, 1600, 0, 1);
            Check.due("gone, street " + street, x.renumber(0, 1700, 1710, street, 0), 2);
            Check.due("it may be there yet", x.possible(0, 1, 1709), 1);
            Check.due("it is gone", x.possible(0, 1, 1710), 0);
            Check.due("there is no number 0", x.possible(0, 0, 1710), -2);
        }
    }

    private static void goneStaysGone() {
        Check.says("or it is gone already");
        HereLived x = new HereLived();
        x.site(1600, 1600, 0, 1);
        x.renumber(0, 1700, 1700, 0, 0);
        Check.due("a number again", x.renumber(0, 1800, 1800, 0, 1), -2);
        Check.due("gone again", x.renumber(0, 1800, 1800, 0, 0), -2);
        Check.due("numberings", x.count(10), 2);
        Check.due("it stays gone", x.possible(0, 1, 1900), 0);
        Check.due("another comes there", x.site(1800, 1800, 0, 1), 1);
        Check.due("which it surely is", x.surely(0, 1, 1900), 1);
    }

    private static void renumberRefused() {
        Check.says("RANGE: no such SITE, years, STREET, number, or it is gone already; FULL.");
        HereLived x = new HereLived();
        x.site(1600, 1600, 0, 1);
        for (int s : new int[] {-1, 1, 39, 40, MIN, MAX}) {
            Check.due("site " + s, x.renumber(s, 1700, 1700, 0, 1), -2);
        }
        for (int n = 2; n <= 8; n++) {
            x.renumber(0, 1600 + n, 1600 + n, 0, n);
        }
        Check.due("FULL", x.renumber(0, 1700, 1700, 0, 1), -3);
        Check.due("no such site, ahead of FULL", x.renumber(1, 1700, 1700, 0, 1), -2);
        Check.due("years, ahead of FULL", x.renumber(0, 1701, 1700, 0, 1), -2);
        Check.due("order, ahead of FULL", x.renumber(0, 1608, 1700, 0, 1), -2);
        Check.due("street, ahead of FULL", x.renumber(0, 1700, 1700, 10, 1), -2);
        Check.due("number, ahead of FULL", x.renumber(0, 1700, 1700, 0, 1000), -2);
    }

    /** Street 0, number 1 from 1600 .. 1610 on, number 2 from 1700 .. 1710 on. */
    private static HereLived renumbered() {
        HereLived x = new HereLived();
        x.site(1600, 1610, 0, 1);
        x.renumber(0, 1700, 1710, 0, 2);
        return x;
    }

    private static void mayHold() {
        Check.says("In a year y a NUMBERING MAY hold, if its from is not above y, and the next one of the SITE (if there is"
            + " one) has its to above y");
        HereLived x = renumbered();
        Check.due("a year ahead of from", x.possible(0, 1, 1599), 0);
        Check.due("from", x.possible(0, 1, 1600), 1);
        Check.due("a year ahead of the next one's to", x.possible(0, 1, 1709), 1);
        Check.due("the next one's to", x.possible(0, 1, 1710), 0);
        Check.due("the next, a year ahead of from", x.possible(0, 2, 1699), 0);
        Check.due("the next, from", x.possible(0, 2, 1700), 1);
        Check.due("there is no next one", x.possible(0, 2, 2100), 1);
        HereLived y = new HereLived();
        y.site(1600, 1600, 0, 1);
        y.renumber(0, 1601, 1601, 0, 2);
        y.renumber(0, 1602, 1602, 0, 0);
        Check.due("for one year", y.possible(0, 1, 1600), 1);
        Check.due("and no longer", y.possible(0, 1, 1601), 0);
        Check.due("the next for one year", y.possible(0, 2, 1601), 1);
        Check.due("and no longer", y.possible(0, 2, 1602), 0);
    }

    private static void surelyHolds() {
        Check.says("it SURELY holds, if its to is not above y, and the next one has its from above y.");
        HereLived x = renumbered();
        Check.due("from", x.surely(0, 1, 1600), -1);
        Check.due("a year ahead of to", x.surely(0, 1, 1609), -1);
        Check.due("to", x.surely(0, 1, 1610), 0);
        Check.due("a year ahead of the next one's from", x.surely(0, 1, 1699), 0);
        Check.due("the next one's from", x.surely(0, 1, 1700), -1);
        Check.due("the next, from", x.surely(0, 2, 1700), -1);
        Check.due("the next, a year ahead of to", x.surely(0, 2, 1709), -1);
        Check.due("the next, to", x.surely(0, 2, 1710), 0);
        Check.due("there is no next one", x.surely(0, 2, 2100), 0);
        HereLived y = new HereLived();
        y.site(1600, 2100, 0, 1);
        Check.due("within the span to the last year", y.surely(0, 1, 2099), -1);
        Check.due("the last year", y.surely(0, 1, 2100), 0);
    }

    private static void possiblyEach() {
        Check.says("A STREET and number is in year y POSSIBLY each SITE of which a NUMBERING with these MAY hold");
        HereLived x = new HereLived();
        for (int s = 0; s < 40; s++) {
            x.site(1500 + 10 * s, 1500 + 10 * s, 3, 3);
        }
        for (int s = 0; s < 40; s++) {
            Check.due("sites 0 .. " + s, x.possible(3, 3, 1500 + 10 * s), (1L << (s + 1)) - 1);
        }
        Check.due("another number", x.possible(3, 4, 2100), 0);
        Check.due("another street", x.possible(4, 3, 2100), 0);
        HereLived y = new HereLived();
        y.site(1600, 1600, 0, 1);
        y.renumber(0, 1700, 1700, 0, 2);
        y.renumber(0, 1800, 1800, 0, 1);
        Check.due("the number that it had", y.possible(0, 1, 1699), 1);
        Check.due("meanwhile", y.possible(0, 1, 1750), 0);
        Check.due("had again", y.possible(0, 1, 1800), 1);
        Check.due("surely again", y.surely(0, 1, 1800), 0);
    }

    private static void surelyAlone() {
        Check.says("it is SURELY a SITE, if it is POSSIBLY that one alone, and there one SURELY holds.");
        HereLived x = new HereLived();
        x.site(1600, 1600, 0, 1);
        x.site(1700, 1710, 0, 1);
        x.renumber(0, 1720, 1730, 0, 2);
        Check.due("alone", x.surely(0, 1, 1699), 0);
        Check.due("the other may hold", x.surely(0, 1, 1700), -1);
        Check.due("both surely hold", x.surely(0, 1, 1715), -1);
        Check.due("the other surely, this one maybe", x.surely(0, 1, 1729), -1);
        Check.due("the other alone", x.surely(0, 1, 1730), 1);
        HereLived y = new HereLived();
        y.site(1600, 1610, 0, 1);
        Check.due("alone, but it isn't sure", y.surely(0, 1, 1605), -1);
        Check.due("alone and sure", y.surely(0, 1, 1610), 0);
        Check.due("none", y.surely(0, 1, 1599), -1);
    }

    private static final int[][] NO_ADDRESS = {{-1, 1, 1600}, {10, 1, 1600}, {MIN, 1, 1600}, {MAX, 1, 1600}, {0, 0, 1600},
        {0, -1, 1600}, {0, 1000, 1600}, {0, MIN, 1600}, {0, MAX, 1600}, {0, 1, 1499}, {0, 1, 2101}, {0, 1, MIN},
        {0, 1, MAX}};

    private static void possibleRefused() {
        Check.says("The POSSIBLE SITES of a STREET and number in a year, as bits; -2 RANGE.");
        HereLived x = new HereLived();
        x.site(1500, 1500, 0, 1);
        x.site(1500, 1500, 9, 999);
        for (int[] w : NO_ADDRESS) {
            Check.due("possible(" + w[0] + ", " + w[1] + ", " + w[2] + ")", x.possible(w[0], w[1], w[2]), -2L);
        }
        Check.due("lowest", x.possible(0, 1, 1500), 1);
        Check.due("highest", x.possible(9, 999, 2100), 2);
        Check.due("none", x.possible(0, 999, 2100), 0);
    }

    private static void surelyRefused() {
        Check.says("The SITE that it SURELY is; NONE; RANGE.");
        HereLived x = new HereLived();
        x.site(1500, 1500, 0, 1);
        x.site(1500, 1500, 9, 999);
        for (int[] w : NO_ADDRESS) {
            Check.due("surely(" + w[0] + ", " + w[1] + ", " + w[2] + ")", x.surely(w[0], w[1], w[2]), -2);
        }
        Check.due("lowest", x.surely(0, 1, 1500), 0);
        Check.due("highest", x.surely(9, 999, 2100), 1);
        Check.due("none", x.surely(0, 999, 2100), -1);
    }
}
