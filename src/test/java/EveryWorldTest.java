/**
 * Promises 6, 7 and 12 by what MAY and SURELY mean: a world is a year for each change within its span. What MAY hold
 * does so in some world, what SURELY holds in all. Every way to lay short spans is tried.
 */
public final class EveryWorldTest {
    private static final int BEGIN = 1600;
    private static final int YEARS = 6;

    public static void main(String[] args) {
        everyPairOfChanges();
        everyExchange();
        Check.end();
    }

    /** One house with the numbers 1, 2, 3, in all worlds of its second and third change. */
    private static void everyPairOfChanges() {
        for (int from = 1; from < YEARS; from++) {
            for (int to = from; to < YEARS; to++) {
                for (int next = to + 1; next < YEARS; next++) {
                    for (int last = next; last < YEARS; last++) {
                        pairOfChanges(new int[] {0, from, next}, new int[] {0, to, last});
                    }
                }
            }
        }
    }

    private static void pairOfChanges(int[] from, int[] to) {
        HereLived x = new HereLived();
        x.site(BEGIN, BEGIN, 0, 1);
        x.renumber(0, BEGIN + from[1], BEGIN + to[1], 0, 2);
        x.renumber(0, BEGIN + from[2], BEGIN + to[2], 0, 3);
        x.person(BEGIN, -1, 0);
        for (int number = 1; number <= 3; number++) {
            int sureYears = 0;
            for (int y = -1; y <= YEARS; y++) {
                int worlds = 0;
                int holds = 0;
                for (int second = from[1]; second <= to[1]; second++) {
                    for (int third = from[2]; third <= to[2]; third++) {
                        worlds++;
                        holds += numberIn(new int[] {0, second, third}, y) == number ? 1 : 0;
                    }
                }
                String at = number + " in " + y + " of " + from[1] + ".." + to[1] + ", " + from[2] + ".." + to[2];
                Check.due("possible " + at, x.possible(0, number, BEGIN + y), holds > 0 ? 1 : 0);
                Check.due("surely " + at, x.surely(0, number, BEGIN + y), holds == worlds ? 0 : -1);
                sureYears += holds == worlds ? 1 : 0;
            }
            x.paper(0, 0, 0, number, BEGIN - 1, BEGIN + YEARS);
            Check.due("lived at " + number, x.lived(0, 0, 0), sureYears);
            x.falsify(number - 1, true);
        }
    }

    private static int numberIn(int[] changes, int y) {
        int number = 0;
        for (int i = 0; i < changes.length; i++) {
            number = changes[i] <= y ? i + 1 : number;
        }
        return number;
    }

    /** Two houses that exchanged the numbers 1 and 2, each in its own span. */
    private static void everyExchange() {
        for (int from = 1; from < YEARS; from++) {
            for (int to = from; to < YEARS; to++) {
                for (int otherFrom = 1; otherFrom < YEARS; otherFrom++) {
                    for (int otherTo = otherFrom; otherTo < YEARS; otherTo++) {
                        exchange(new int[] {from, otherFrom}, new int[] {to, otherTo});
                    }
                }
            }
        }
    }

    private static void exchange(int[] from, int[] to) {
        HereLived x = new HereLived();
        for (int s = 0; s < 2; s++) {
            x.site(BEGIN, BEGIN, 0, 1 + s);
            x.renumber(s, BEGIN + from[s], BEGIN + to[s], 0, 2 - s);
        }
        for (int number = 1; number <= 2; number++) {
            for (int y = -1; y <= YEARS; y++) {
                int possible = 0;
                int surely = -1;
                for (int s = 0; s < 2; s++) {
                    int holds = 0;
                    for (int change = from[s]; change <= to[s]; change++) {
                        int bears = y < 0 ? 0 : y < change ? 1 + s : 2 - s;
                        holds += bears == number ? 1 : 0;
                    }
                    possible |= holds > 0 ? 1 << s : 0;
                    surely = holds == to[s] - from[s] + 1 ? s : surely;
                }
                String at = number + " in " + y + " of " + from[0] + ".." + to[0] + ", " + from[1] + ".." + to[1];
                Check.due("possible " + at, x.possible(0, number, BEGIN + y), possible);
                Check.due("surely " + at, x.surely(0, number, BEGIN + y), possible == 3 ? -1 : surely);
            }
        }
    }
}
