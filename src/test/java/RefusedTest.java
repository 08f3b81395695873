import java.util.ArrayList;
import java.util.List;
import java.util.function.ToLongFunction;

/**
 * A call that is refused changes nothing: a desk that refused one answers all further calls as one that was never
 * asked. Reading calls empty the tape even when they are refused, so their twin's tape is emptied by end(0).
 */
public final class RefusedTest {
    private static final int MIN = Integer.MIN_VALUE;
    private static final int MAX = Integer.MAX_VALUE;

    public static void main(String[] args) {
        ordinary();
        fullDesk();
        fullSite();
        fullTape();
        refusedTexts();
        refusedWords();
        questions();
        Check.end();
    }

    private static HereLived desk() {
        HereLived x = EdgesOfAskingsTest.everyState();
        x.renumber(4, 1710, 1720, 0, 0);
        x.person(1700, -1, 7);
        x.join(1, 2);
        x.falsify(4, true);
        AskingsTest.rules(x, "dead 9;theme 3 4;");
        Check.tell(x, "lived");
        x.rules();
        Check.tell(x, "down 42;one no");
        return x;
    }

    /** All that can be asked; the tape last, since reading it changes rules. */
    private static List<Long> answers(HereLived x, boolean withFault) {
        List<Long> all = new ArrayList<>();
        for (int what = 0; what < 52; what++) {
            all.add((long) x.count(what));
        }
        for (int what = 0; what < 18; what++) {
            all.add((long) x.rule(what));
        }
        all.add(withFault ? x.fault(0) : 0L);
        all.add(withFault ? x.fault(1) : 0L);
        for (int a = 0; a < Math.min(x.count(3), 6); a++) {
            for (int what = 0; what < 8; what++) {
                all.add((long) x.about(a, what));
            }
            all.add((long) x.against(a));
            all.add((long) x.line(a, 1));
            all.add((long) x.wide(a, 0));
        }
        for (int p = 0; p < Math.min(x.count(1), 6); p++) {
            for (int s = 0; s < Math.min(x.count(0), 5); s++) {
                all.add((long) x.lived(p, s, 0));
                all.add((long) x.lived(p, s, 1));
            }
            all.add((long) x.lived(p, p % 5, 4));
        }
        for (int number = 0; number < 8; number++) {
            all.add(x.possible(0, number, 1700));
            all.add((long) x.surely(0, number, 1715));
        }
        all.add((long) x.doubtful());
        all.add((long) x.feed(0x3b202020, 0x20202020, 0x20202020, 0x20202020, 0x20202020));
        all.add((long) x.rules());
        all.add((long) x.fault(0));
        all.add((long) x.fault(1));
        all.add((long) x.rule(7));
        all.add((long) x.ask(0, 0, 1700));
        return all;
    }

    private interface Desk {
        HereLived make();
    }

    private static void same(String call, HereLived asked, HereLived twin, boolean withFault) {
        List<Long> got = answers(asked, withFault);
        List<Long> want = answers(twin, withFault);
        Check.due("answers behind " + call, got.size(), want.size());
        for (int i = 0; i < want.size(); i++) {
            Check.due("answer " + i + " behind " + call, got.get(i), want.get(i));
        }
    }

    private static void refused(Desk desk, String call, int due, ToLongFunction<HereLived> ask) {
        HereLived x = desk.make();
        Check.due(call, ask.applyAsLong(x), due);
        same(call, x, desk.make(), true);
    }

    private static void here(String call, int due, ToLongFunction<HereLived> ask) {
        refused(RefusedTest::desk, call, due, ask);
    }

    private static void ordinary() {
        here("end(15)", -1, x -> x.end(15));
        here("end(-1)", -1, x -> x.end(-1));
        here("site, years", -2, x -> x.site(1601, 1600, 0, 6));
        here("site, street", -2, x -> x.site(1600, 1600, 10, 6));
        here("site, number", -2, x -> x.site(1600, 1600, 0, 0));
        here("renumber, site", -2, x -> x.renumber(5, 1705, 1705, 0, 6));
        here("renumber, years", -2, x -> x.renumber(0, 1706, 1705, 0, 6));
        here("renumber, order", -2, x -> x.renumber(0, 1500, 1705, 0, 6));
        here("renumber, street", -2, x -> x.renumber(0, 1705, 1705, -1, 6));
        here("renumber, number", -2, x -> x.renumber(0, 1705, 1705, 0, 1000));
        here("renumber, gone", -2, x -> x.renumber(4, 1730, 1730, 0, 6));
        here("person, years", -2, x -> x.person(1600, 1599, 0));
        here("person, theme", -2, x -> x.person(1600, 1650, 8));
        here("join, no such", -2, x -> x.join(0, 6));
        here("join, the same", -2, x -> x.join(0, 0));
        here("join, they were", 0, x -> x.join(2, 1));
        here("paper, person", -2, x -> x.paper(6, 5, 0, 1, 1600, 1600));
        here("paper, source", -2, x -> x.paper(0, 6, 0, 1, 1600, 1600));
        here("paper, number", -2, x -> x.paper(0, 5, 0, 0, 1600, 1600));
        here("paper, years", -2, x -> x.paper(0, 5, 0, 1, 1600, 1660));
        here("falsify, no such", -2, x -> x.falsify(5, true));
        here("falsify, it was", 0, x -> x.falsify(4, true));
        here("falsify, it wasn't", 0, x -> x.falsify(0, false));
        here("ask, person", -2, x -> x.ask(6, 0, 2100));
        here("ask, site", -2, x -> x.ask(0, 5, 2100));
        here("ask, year", -2, x -> x.ask(0, 0, 1699));
        here("vote, no such", -2, x -> x.vote(5, 1, 2));
        here("vote, votes", -2, x -> x.vote(0, 1, 100));
        for (int a = 1; a < 5; a++) {
            int asking = a;
            here("vote, state " + a, -4, x -> x.vote(asking, 1, 2));
            here("decide, state " + a, -4, x -> x.decide(asking));
        }
        here("decide, no such", -2, x -> x.decide(5));
        here("down, no such", -2, x -> x.down(5, 1, 0));
        here("down, votes", -2, x -> x.down(3, 99, 100));
        here("down, open", -4, x -> x.down(0, 99, 0));
        here("down, granted", -4, x -> x.down(2, 99, 0));
        here("down, taken down", -4, x -> x.down(4, 99, 0));
        here("down, too few", 3, x -> x.down(3, 1, 99));
        here("wild", -2, x -> x.paper(MIN, MAX, MIN, MAX, MIN, MAX));
    }

    /** 40 sites, 30 people, 100 papers, 40 askings. */
    private static HereLived full() {
        HereLived x = new HereLived();
        for (int i = 0; i < 40; i++) {
            x.site(1500, 1500, 0, 1 + i);
        }
        for (int p = 0; p < 30; p++) {
            x.person(1600, 1650, p % 8);
        }
        for (int k = 0; k < 100; k++) {
            x.paper(k % 30, 0, 0, 1 + k % 30, 1620, 1629);
        }
        for (int a = 0; a < 40; a++) {
            x.ask(a % 30, a, 1700);
        }
        return x;
    }

    private static void fullDesk() {
        refused(RefusedTest::full, "site 41", -3, x -> x.site(1500, 1500, 0, 1));
        refused(RefusedTest::full, "person 31", -3, x -> x.person(1600, 1650, 0));
        refused(RefusedTest::full, "paper 101", -3, x -> x.paper(0, 1, 0, 1, 1500, 1500));
        refused(RefusedTest::full, "asking 41", -3, x -> x.ask(0, 0, 2100));
    }

    private static void fullSite() {
        Desk eight = () -> {
            HereLived x = desk();
            for (int n = 2; n <= 8; n++) {
                x.renumber(0, 1700 + n, 1700 + n, 0, n);
            }
            return x;
        };
        refused(eight, "numbering 9", -3, x -> x.renumber(0, 1715, 1715, 0, 7));
        refused(eight, "numbering 9, gone", -3, x -> x.renumber(0, 1715, 1715, 0, 0));
    }

    private static void fullTape() {
        Desk most = () -> {
            HereLived x = desk();
            x.end(0);
            Check.tell(x, " ".repeat(580) + "down 43;");
            return x;
        };
        refused(most, "feed beyond 600", -3, x -> x.feed(-1, -1, -1, -1, -1));
    }

    /** The twin read an empty text's worth of tape: only the fault differs. */
    private static void refusedTexts() {
        for (String text : new String[] {"x", "down 1", "down 1;down 1;", "one yes;theme 3 1;down 101;"}) {
            HereLived x = desk();
            x.end(0);
            Check.tell(x, text);
            Check.due("rules of [" + text + "]", x.rules(), -1);
            HereLived twin = desk();
            twin.end(0);
            same("rules of [" + text + "]", x, twin, false);
        }
    }

    private static void words(String text, int a, int width, int lines, int due) {
        HereLived x = desk();
        x.end(0);
        Check.tell(x, text);
        String call = "hang [" + text + "] of " + a + " in " + width + ", " + lines;
        Check.due(call, x.hang(a, width, lines), due);
        HereLived twin = desk();
        twin.end(0);
        same(call, x, twin, true);
    }

    private static void refusedWords() {
        words("Here", 5, 400, 8, -2);
        words("Here", 2, 401, 8, -2);
        words("Here", 2, 0, 8, -2);
        words("Here", 2, 400, 0, -2);
        words("Here", 2, 400, 9, -2);
        words("a b c d", 0, 4, 8, -4);
        words("a b c d", 1, 4, 8, -4);
        words("a b c d", 3, 4, 8, -4);
        words("a b c d", 4, 4, 8, -4);
        words("", 2, 400, 8, -1);
        words("a b c d \t", 2, 4, 8, -1);
        words("a b c d 1700", 2, 16, 8, -5);
        words("a b c d", 2, 4, 3, -3);
    }

    /** Asking changes nothing either. */
    private static void questions() {
        here("possible", 1, x -> x.possible(0, 1, 1600));
        here("surely", 0, x -> x.surely(0, 1, 1600));
        here("lived", 10, x -> x.lived(0, 0, 0));
        here("fault", 1, x -> x.fault(0));
        here("rule", 9, x -> x.rule(0));
        here("against", 0, x -> x.against(0));
        here("line", 1, x -> x.line(3, 0));
        here("wide", 17, x -> x.wide(3, 0));
        here("about", 7, x -> x.about(0, 4));
        here("doubtful", 0, x -> x.doubtful());
        here("count", 14, x -> x.count(5));
    }
}
