/** The document's first paragraph, clause by clause, as the story of one desk. */
public final class StoryTest {
    private static final int ADA = 0;
    private static final int COUNTESS = 1;
    private static final int MOVED = 0;
    private static final int CORNER = 1;
    private static final int FOUND_LATER = 2;
    private static final HereLived DESK = new HereLived();

    public static void main(String[] args) {
        desk();
        sites();
        papers();
        surelyOrMaybe();
        twoNames();
        judged();
        knownThen();
        words();
        foundLater();
        takenDown();
        Check.end();
    }

    private static void desk() {
        Check.says("A desk for plaques on houses");
        for (int what = 0; what <= 5; what++) {
            Check.due("count(" + what + ") of a new desk", DESK.count(what), 0);
        }
    }

    private static void sites() {
        Check.says("sites whose streets and numbers changed in years that are known or lie within spans");
        Check.due("a house", DESK.site(1700, 1700, 0, 5), MOVED);
        Check.due("another number, within a span", DESK.renumber(MOVED, 1800, 1810, 0, 7), 2);
        Check.due("another street, in a known year", DESK.renumber(MOVED, 1850, 1850, 3, 7), 3);
        Check.due("the house at the corner", DESK.site(1700, 1700, 0, 7), CORNER);
        Check.due("its number went on", DESK.renumber(CORNER, 1805, 1805, 0, 9), 2);
        Check.due("7 of street 0, until 1850", DESK.surely(0, 7, 1849), MOVED);
        Check.due("no longer", DESK.surely(0, 7, 1850), -1);
        Check.due("7 of street 3, since 1850", DESK.surely(3, 7, 1850), MOVED);
    }

    private static void papers() {
        Check.says("papers that tell who lived at which number when");
        Check.due("Ada", DESK.person(1750, 1830, 2), ADA);
        Check.due("she lived at 5", DESK.paper(ADA, 0, 0, 5, 1790, 1801), 0);
        Check.due("surely, 1790 .. 1799", DESK.lived(ADA, MOVED, 0), 10);
        Check.due("possibly, 1790 .. 1801", DESK.lived(ADA, MOVED, 1), 12);
        Check.due("not at the corner", DESK.lived(ADA, CORNER, 1), 0);
    }

    private static void surelyOrMaybe() {
        Check.says("which site that surely was, or may have been");
        Check.due("7 was both, in 1802", DESK.possible(0, 7, 1802), 3);
        Check.due("neither surely", DESK.surely(0, 7, 1802), -1);
        Check.due("the moved one alone, in 1807", DESK.possible(0, 7, 1807), 1);
        Check.due("but not surely yet", DESK.surely(0, 7, 1807), -1);
        Check.due("surely, from 1810 on", DESK.surely(0, 7, 1810), MOVED);
    }

    private static void twoNames() {
        Check.says("people told under two names");
        Check.due("the countess", DESK.person(1755, 1831, 4), COUNTESS);
        Check.due("she lived at 9", DESK.paper(COUNTESS, 3, 0, 9, 1806, 1807), 1);
        Check.due("Ada did not", DESK.lived(ADA, CORNER, 0), 0);
        Check.due("they are ONE", DESK.join(ADA, COUNTESS), 1);
        Check.due("so Ada did", DESK.lived(ADA, CORNER, 0), 2);
        Check.due("and the countess lived at 5", DESK.lived(COUNTESS, MOVED, 0), 10);
    }

    private static void judged() {
        Check.says("askings judged by rules told as a text and by votes");
        Check.tell(DESK, "dead 10; lived 2; votes 4 75;\ndown 60;");
        Check.due("lines", DESK.rules(), 4);
        Check.due("asked", DESK.ask(ADA, CORNER, 1841), 0);
        Check.due("nothing speaks against it", DESK.against(0), 0);
        DESK.vote(0, 3, 0);
        Check.due("a vote too few", DESK.decide(0), 1);
        Check.due("asked again", DESK.ask(ADA, CORNER, 1841), 1);
        DESK.vote(1, 3, 1);
        Check.due("75 in a hundred", DESK.decide(1), 2);
    }

    private static void knownThen() {
        Check.says("on what was known then");
        Check.due("asked a third time", DESK.ask(ADA, CORNER, 1842), 2);
        DESK.vote(2, 9, 0);
        DESK.falsify(1, true);
        Check.due("while the paper is false", DESK.decide(2), 1);
        DESK.falsify(1, false);
        Check.due("it stays refused", DESK.about(2, 3), 1);
        Check.due("by what spoke against it then", DESK.about(2, 6), 2 + 4 + 128);
        Check.due("though nothing does now", DESK.against(2), 0);
        Check.due("and the granted one stays granted", DESK.about(1, 3), 2);
    }

    private static void words() {
        Check.says("words fitted in lines by the widths of letters, with every year in them held against what is sure");
        Check.tell(DESK, "Here lived Ada 1808");
        Check.due("1808 isn't sure", DESK.hang(1, 36, 4), -5);
        Check.tell(DESK, "Here lived Ada 1806");
        Check.due("1806 is", DESK.hang(1, 36, 4), 2);
        Check.due("Here lived", DESK.line(1, 0), 2);
        Check.due("its width", DESK.wide(1, 0), 17 + 2 + 16);
        Check.due("Ada 1806", DESK.line(1, 1), 2);
        Check.due("its width", DESK.wide(1, 1), 13 + 2 + 16);
    }

    private static void foundLater() {
        Check.says("what papers found later make of those that hang");
        Check.due("no doubt", DESK.doubtful(), 0);
        DESK.falsify(1, true);
        Check.due("its paper is false", DESK.doubtful(), 1);
        DESK.falsify(1, false);
        Check.due("it isn't", DESK.doubtful(), 0);
        Check.due("another house", DESK.site(1806, 1806, 0, 9), FOUND_LATER);
        Check.due("was number 9 then too", DESK.doubtful(), 1);
        DESK.renumber(FOUND_LATER, 1811, 1811, 0, 11);
        Check.due("still", DESK.doubtful(), 1);
        Check.due("a paper of later years", DESK.paper(ADA, 4, 0, 9, 1812, 1813), 2);
        Check.due("no doubt any more", DESK.doubtful(), 0);
    }

    private static void takenDown() {
        Check.says("plaques taken down");
        Check.due("59 in a hundred", DESK.down(1, 58, 40), 3);
        Check.due("it hangs", DESK.count(4), 1);
        Check.due("60 in a hundred", DESK.down(1, 3, 2), 4);
        Check.due("none hangs", DESK.count(4), 0);
        Check.due("its lines are known yet", DESK.line(1, 0), 2);
    }
}
