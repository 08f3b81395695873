import java.util.ArrayList;
import java.util.List;
import java.util.Random;

/** Random runs of 512 calls at most, each answer held against the Model's. All promises; the seeds are fixed. */
public final class ModelTest {
    private static final String[] WORDS = {"Here", "lived", "i", "Mimi", "WOW", "and", "a", "the", "b.", "(poet)", "Ada",
        "house", "of", "Li", "m", "-", "'x'"};
    private static final String[] LINES = {"dead N;", "lived n;", "sources n;", "span N;", "one yes;", "one no;",
        "votes n N;", "down N;", "theme n n;", "theme n n;"};

    private final Random random;
    private final HereLived x = new HereLived();
    private final Model m = new Model();
    private int calls;
    private int year = 1500;

    private ModelTest(long seed) {
        random = new Random(seed);
    }

    public static void main(String[] args) {
        int runs = args.length > 0 ? Integer.parseInt(args[0]) : 400;
        int[] hung = new int[5];
        for (int seed = 0; seed < runs; seed++) {
            ModelTest run = new ModelTest(seed);
            run.play(seed);
            run.m.askings.forEach(a -> hung[a.state]++);
        }
        System.out.println("askings by state: " + java.util.Arrays.toString(hung));
        Check.that("runs reach every state", hung[0] > 0 && hung[1] > 0 && hung[2] > 0 && hung[3] > 0 && hung[4] > 0);
        Check.end();
    }

    private void same(String call, long got, long want) {
        calls++;
        Check.due(call + ", call " + calls, got, want);
    }

    private int any(int low, int high) {
        return low + random.nextInt(high - low + 1);
    }

    private boolean chance(int in100) {
        return random.nextInt(100) < in100;
    }

    /** A number of 0 .. size - 1, seldom one beside it. */
    private int of(int size) {
        return size == 0 || chance(4) ? any(-1, size) : random.nextInt(size);
    }

    private int wrongAtTimes(int value) {
        int[] wild = {-1, 0, 1, -2, 10, 1000, 1499, 2101, Integer.MIN_VALUE, Integer.MAX_VALUE};
        return chance(2) ? wild[random.nextInt(wild.length)] : value;
    }

    private void play(int seed) {
        int numbers = seed % 3 == 0 ? 3 : seed % 3 == 1 ? 8 : 30;
        int streets = seed % 2;
        if (seed % 4 != 0) {
            tell("dead " + any(0, 30) + ";votes " + any(0, 2) + " " + any(0, 60) + "; one " + (chance(50) ? "no;" : "yes;"));
            same("rules", x.rules(), m.rules());
        }
        while (calls < 480) {
            int kind = any(0, 99);
            if (kind < 8) {
                places(streets, numbers);
            } else if (kind < 20) {
                persons(streets, numbers);
            } else if (kind < 36) {
                looks(streets, numbers);
            } else if (kind < 41) {
                ruleText();
            } else if (kind < 88) {
                askings();
            } else {
                counts();
            }
        }
    }

    private void places(int streets, int numbers) {
        int street = wrongAtTimes(any(0, streets));
        int number = wrongAtTimes(any(1, numbers));
        if (chance(40)) {
            int from = wrongAtTimes(any(1500, 1640));
            int to = wrongAtTimes(from + any(0, 30));
            same("site", x.site(from, to, street, number), m.site(from, to, street, number));
        } else {
            int s = of(m.sites.size());
            int begin = s >= 0 && s < m.sites.size() ? m.sites.get(s).get(m.sites.get(s).size() - 1).to() : 1600;
            int from = wrongAtTimes(begin + any(0, 120));
            int to = wrongAtTimes(from + any(0, 40));
            int bears = chance(10) ? 0 : number;
            same("renumber", x.renumber(s, from, to, street, bears), m.renumber(s, from, to, street, bears));
        }
    }

    private void persons(int streets, int numbers) {
        int p = of(m.people.size());
        int kind = any(0, 99);
        if (kind < 20) {
            int born = wrongAtTimes(any(1500, 1800));
            int died = chance(10) ? -1 : wrongAtTimes(born + any(0, 90));
            int theme = wrongAtTimes(any(0, 3));
            same("person", x.person(born, died, theme), m.person(born, died, theme));
        } else if (kind < 25) {
            int q = of(m.people.size());
            same("join", x.join(p, q), m.join(p, q));
        } else if (kind < 90) {
            int source = wrongAtTimes(any(0, 5));
            int street = wrongAtTimes(any(0, streets));
            int number = wrongAtTimes(any(1, numbers));
            int from = wrongAtTimes(any(1500, 1900));
            int to = wrongAtTimes(from + any(0, chance(50) ? 10 : 61));
            same("paper", x.paper(p, source, street, number, from, to), m.paper(p, source, street, number, from, to));
        } else {
            int k = of(m.papers.size());
            boolean is = chance(60);
            same("falsify", x.falsify(k, is), m.falsify(k, is));
        }
    }

    private void looks(int streets, int numbers) {
        int street = wrongAtTimes(any(0, streets));
        int number = wrongAtTimes(any(1, numbers));
        int y = wrongAtTimes(any(1500, 2100));
        same("possible", x.possible(street, number, y), m.possible(street, number, y));
        same("surely", x.surely(street, number, y), m.surely(street, number, y));
        int p = of(m.people.size());
        int s = of(m.sites.size());
        int what = wrongAtTimes(any(0, 4));
        same("lived", x.lived(p, s, what), m.lived(p, s, what));
    }

    private void tell(String text) {
        same("end(0)", x.end(0), m.end(0));
        for (int i = 0; i < text.length(); i += 20) {
            int[] f = new int[5];
            for (int j = 0; j < 5; j++) {
                f[j] = Check.four(text, i + 4 * j);
            }
            same("feed", x.feed(f[0], f[1], f[2], f[3], f[4]), m.feed(f));
        }
        int n = text.length() % 20 == 0 ? text.length() : wrongAtTimes(text.length());
        same("end", x.end(n), m.end(n));
    }

    private void ruleText() {
        StringBuilder text = new StringBuilder();
        int lines = any(0, 5);
        for (int i = 0; i < lines; i++) {
            for (char c : LINES[random.nextInt(LINES.length)].toCharArray()) {
                if (c == 'n' && text.length() > 0 && text.charAt(text.length() - 1) == ' ' && chance(90)) {
                    text.append(any(0, chance(95) ? 4 : 20));
                } else if (c == 'N') {
                    text.append(any(0, chance(95) ? 99 : 20000));
                } else {
                    text.append(c);
                }
            }
            text.append(chance(50) ? "" : chance(50) ? "\n" : "  ");
        }
        if (chance(20) && text.length() > 0) {
            text.setCharAt(random.nextInt(text.length()), (char) any(0, 255));
        }
        if (chance(10) && text.length() > 0) {
            text.setLength(random.nextInt(text.length()));
        }
        tell(text.toString());
        same("rules of [" + text + "]", x.rules(), m.rules());
        same("fault(0) of [" + text + "]", x.fault(0), m.fault(0));
        same("fault(1) of [" + text + "]", x.fault(1), m.fault(1));
        int what = any(-1, 18);
        same("rule", x.rule(what), m.rule(what));
    }

    private void askings() {
        int a = of(m.askings.size());
        int kind = any(0, 99);
        if (kind < 30) {
            askAgain();
        } else if (kind < 40) {
            same("against", x.against(a), m.against(a));
        } else if (kind < 48) {
            int yes = wrongAtTimes(any(0, 9));
            int no = wrongAtTimes(any(0, 3));
            same("vote", x.vote(a, yes, no), m.vote(a, yes, no));
        } else if (kind < 58) {
            same("decide", x.decide(a), m.decide(a));
        } else if (kind < 80) {
            plaque(granted(a));
        } else if (kind < 84) {
            int yes = wrongAtTimes(any(0, 9));
            int no = wrongAtTimes(any(0, 9));
            same("down", x.down(a, yes, no), m.down(a, yes, no));
        } else if (kind < 92) {
            int i = any(-1, 4);
            same("line", x.line(a, i), m.line(a, i));
            same("wide", x.wide(a, i), m.wide(a, i));
        } else {
            same("doubtful", x.doubtful(), m.doubtful());
        }
    }

    /** Asks most of the time for a person and a site where something is sure. */
    private void askAgain() {
        int p = of(m.people.size());
        int s = of(m.sites.size());
        for (int again = 0; again < 20 && m.lived(p, s, 0) <= 0; again++) {
            p = of(m.people.size());
            s = of(m.sites.size());
        }
        year = Math.min(2100, year < 1750 && chance(20) ? 1750 : year + (chance(50) ? 0 : any(0, 12)));
        int in = chance(5) ? year - any(0, 40) : wrongAtTimes(year);
        int a = m.ask(p, s, in);
        same("ask", x.ask(p, s, in), a);
        same("against", x.against(a), m.against(a));
        if (chance(60)) {
            int yes = any(1, 9);
            same("vote", x.vote(a, yes, 1), m.vote(a, yes, 1));
            same("decide", x.decide(a), m.decide(a));
        }
    }

    private int granted(int otherwise) {
        List<Integer> all = new ArrayList<>();
        for (int a = 0; a < m.askings.size(); a++) {
            if (m.askings.get(a).state == 2) {
                all.add(a);
            }
        }
        return all.isEmpty() || chance(10) ? otherwise : all.get(random.nextInt(all.size()));
    }

    private void plaque(int a) {
        StringBuilder text = new StringBuilder();
        int words = any(chance(5) ? 0 : 1, chance(5) ? 42 : 12);
        boolean few = words <= 12;
        for (int i = 0; i < words; i++) {
            text.append(few && chance(10) ? year(a) : few ? WORDS[random.nextInt(WORDS.length)] : "iii");
            text.append(chance(80) ? " " : "\n ");
        }
        if (chance(3) && text.length() > 0) {
            text.setCharAt(random.nextInt(text.length()), (char) any(0, 255));
        }
        if (chance(3)) {
            text.append("i".repeat(any(22, 26)));
        }
        tell(text.toString());
        int width = wrongAtTimes(few ? any(16, 80) : any(300, 400));
        int lines = wrongAtTimes(few ? any(1, 8) : any(1, 2));
        same("hang [" + text + "] in " + width + ", " + lines, x.hang(a, width, lines), m.hang(a, width, lines));
        for (int i = 0; i < 8 && a >= 0 && a < m.askings.size() && m.askings.get(a).state == 3; i++) {
            same("line " + i + " of [" + text + "]", x.line(a, i), m.line(a, i));
            same("wide " + i + " of [" + text + "]", x.wide(a, i), m.wide(a, i));
            if (m.line(a, i) == -1) {
                break;
            }
        }
    }

    private String year(int a) {
        if (a < 0 || a >= m.askings.size() || chance(10)) {
            return String.valueOf(any(100, 12000));
        }
        Model.Asking asking = m.askings.get(a);
        int[] years = {m.people.get(asking.person).born(), m.people.get(asking.person).died(),
            m.lived(asking.person, asking.site, 2), m.lived(asking.person, asking.site, 3)};
        return "(" + Math.abs(years[random.nextInt(4)]) + ")";
    }

    private void counts() {
        int what = any(-1, 52);
        same("count", x.count(what), m.count(what));
        int a = of(m.askings.size());
        int about = any(-1, 8);
        same("about", x.about(a, about), m.about(a, about));
        int rule = any(-1, 18);
        same("rule", x.rule(rule), m.rule(rule));
    }
}
