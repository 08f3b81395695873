import java.util.Random;

/** No call throws, whatever its arguments and whatever came before: the desk is filled, then beaten. */
public final class WildTest {
    private static final int[] WILD = {Integer.MIN_VALUE, Integer.MIN_VALUE + 1, -1000, -10, -9, -5, -2, -1, 0, 1, 2, 3, 7,
        8, 9, 10, 17, 18, 24, 39, 40, 41, 49, 50, 63, 64, 99, 100, 101, 400, 401, 599, 600, 601, 999, 1000, 1499, 1500,
        1501, 1563, 1564, 1700, 2099, 2100, 2101, Integer.MAX_VALUE - 1, Integer.MAX_VALUE};

    private final Random random;
    private final HereLived x = new HereLived();

    private WildTest(long seed) {
        random = new Random(seed);
    }

    public static void main(String[] args) {
        for (int seed = 0; seed < 1000; seed++) {
            WildTest run = new WildTest(seed);
            if (seed % 2 == 0) {
                run.fill();
            }
            for (int i = 0; i < 2000; i++) {
                run.call(run.random.nextInt(25));
            }
        }
        Check.that("nothing was thrown", true);
        fullTapes();
        Check.end();
    }

    private int w() {
        return random.nextInt(3) == 0 ? WILD[random.nextInt(WILD.length)] : random.nextInt(12);
    }

    private int year() {
        return random.nextInt(20) == 0 ? w() : 1500 + random.nextInt(601);
    }

    private void fill() {
        for (int s = 0; s < 40; s++) {
            x.site(1500, 1510, s % 10, 1 + s % 3);
            for (int n = 0; n < 7; n++) {
                x.renumber(s, 1520 + n * 70, 1540 + n * 70, (s + n) % 10, 1 + n % 3);
            }
        }
        for (int p = 0; p < 30; p++) {
            x.person(1500 + p, p % 5 == 0 ? -1 : 1600, p % 8);
        }
        for (int k = 0; k < 100; k++) {
            x.paper(k % 30, k % 6, k % 10, 1 + k % 3, 1500 + k * 5, 1559 + k * 5 > 2100 ? 2100 : 1559 + k * 5);
        }
        Check.tell(x, "dead 0;lived 0;sources 0;one no;votes 0 0;span 999;");
        x.rules();
        for (int a = 0; a < 40; a++) {
            x.ask(a % 30, a, 1700 + a);
        }
    }

    private void call(int kind) {
        int a = w();
        int b = w();
        int c = w();
        switch (kind) {
            case 0 -> x.feed(random.nextInt(), 0x20202020, a, b, c);
            case 1 -> x.end(a);
            case 2 -> x.site(year(), year(), a, b);
            case 3 -> x.renumber(a, year(), year(), b, c);
            case 4 -> x.possible(a, b, year());
            case 5 -> x.surely(a, b, year());
            case 6 -> x.person(year(), year(), a);
            case 7 -> x.join(a, b);
            case 8 -> x.paper(a, b, c, w(), year(), year());
            case 9 -> x.falsify(a, b > 0);
            case 10 -> x.lived(a, b, c);
            case 11 -> x.rules();
            case 12 -> x.fault(a);
            case 13 -> x.rule(a);
            case 14 -> x.ask(a, b, year());
            case 15 -> x.against(a);
            case 16 -> x.vote(a, b, c);
            case 17 -> x.decide(a);
            case 18 -> hang(a, b, c);
            case 19 -> x.line(a, b);
            case 20 -> x.wide(a, b);
            case 21 -> x.down(a, b, c);
            case 22 -> x.about(a, b);
            case 23 -> x.doubtful();
            default -> x.count(a);
        }
    }

    private void hang(int a, int b, int c) {
        if (random.nextBoolean()) {
            x.end(0);
            x.feed(0x48657265, 0x20206920, 0x69206920, 0x206d6d6d, 0x20212121);
        }
        x.hang(a, b, c);
    }

    private static void fullTapes() {
        Random random = new Random(1);
        String[] bytes = {"a", "0", ";", " ", "dead ", "theme 1 1;", "1 ", "\n", "~", "\u00ff", "one yes;"};
        for (int run = 0; run < 2000; run++) {
            HereLived x = AskingsTest.desk();
            x.ask(0, 0, 1700);
            x.vote(0, 9, 0);
            x.decide(0);
            StringBuilder text = new StringBuilder();
            while (text.length() < 600) {
                text.append(bytes[random.nextInt(run % bytes.length + 1)]);
            }
            text.setLength(600);
            Check.tell(x, text.toString());
            if (run % 2 == 0) {
                x.rules();
            } else {
                x.hang(0, 1 + random.nextInt(400), 1 + random.nextInt(8));
            }
            Check.due("tape", x.count(5), 0);
        }
    }
}
