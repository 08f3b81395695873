import java.util.ArrayList;
import java.util.List;

/** Promises 20 to 22: every row of up to five short WORDS, in many widths, against every way to break it. */
public final class EveryFitTest {
    private static final String[] WORDS = {"i", "n", "em"};
    private static final int[] WIDTHS_OF = {2, 4, 10};
    private static final int[] WIDTHS = {1, 2, 3, 4, 6, 8, 9, 10, 12, 14, 16, 18, 22, 24, 30, 36, 58, 400};
    private static final int[] LINES = {1, 2, 3, 4, 8};
    private static final int MOST = 5;
    private static final int ASKINGS = 30;

    private static HereLived desk;
    private static int next = ASKINGS;

    public static void main(String[] args) {
        for (int size = 1; size <= MOST; size++) {
            int rows = 1;
            for (int i = 0; i < size; i++) {
                rows *= WORDS.length;
            }
            for (int row = 0; row < rows; row++) {
                everyWidth(words(row, size));
            }
        }
        Check.end();
    }

    private static int[] words(int row, int size) {
        int[] words = new int[size];
        for (int i = 0; i < size; i++) {
            words[i] = row % WORDS.length;
            row /= WORDS.length;
        }
        return words;
    }

    private static void everyWidth(int[] words) {
        for (int width : WIDTHS) {
            for (int lines : LINES) {
                fit(words, width, lines);
            }
        }
    }

    /** All ASKINGS of a desk are granted ahead of the first PLAQUE, which would speak against the others. */
    private static int granted() {
        if (next < ASKINGS) {
            return next++;
        }
        desk = AskingsTest.desk();
        for (int a = 0; a < ASKINGS; a++) {
            desk.ask(0, 0, 1700);
            desk.vote(a, 9, 0);
            Check.due("decide", desk.decide(a), 2);
        }
        next = 1;
        return 0;
    }

    private static void fit(int[] words, int width, int lines) {
        int a = granted();
        StringBuilder text = new StringBuilder();
        for (int word : words) {
            text.append(WORDS[word]).append(text.length() % 3 == 0 ? "\n " : " ");
        }
        Check.tell(desk, text.toString());
        List<Integer> due = best(words, width, lines);
        String call = "[" + text + "] in " + width + ", " + lines;
        Check.due("hang " + call, desk.hang(a, width, lines), due == null ? -3 : due.size());
        if (due == null) {
            return;
        }
        int first = 0;
        for (int i = 0; i < due.size(); i++) {
            Check.due("line " + i + " of " + call, desk.line(a, i), due.get(i));
            Check.due("wide " + i + " of " + call, desk.wide(a, i), wide(words, first, due.get(i)));
            first += due.get(i);
        }
    }

    private static int wide(int[] words, int first, int many) {
        int wide = (many - 1) * 2;
        for (int i = first; i < first + many; i++) {
            wide += WIDTHS_OF[words[i]];
        }
        return wide;
    }

    /** Each bit of a way tells whether a line ends behind that word. */
    private static List<Integer> best(int[] words, int width, int lines) {
        List<Integer> best = null;
        int bestSum = 0;
        for (int way = 0; way < 1 << (words.length - 1); way++) {
            List<Integer> row = row(way, words.length);
            int sum = sum(words, row, width);
            if (row.size() > lines || sum < 0) {
                continue;
            }
            if (best == null || sum < bestSum || sum == bestSum && isLess(row, best)) {
                best = row;
                bestSum = sum;
            }
        }
        return best;
    }

    private static List<Integer> row(int way, int size) {
        List<Integer> row = new ArrayList<>();
        int many = 1;
        for (int i = 0; i < size - 1; i++) {
            if ((way >> i & 1) == 1) {
                row.add(many);
                many = 0;
            }
            many++;
        }
        row.add(many);
        return row;
    }

    /** Below 0 if a line is too wide. */
    private static int sum(int[] words, List<Integer> row, int width) {
        int sum = 0;
        int first = 0;
        for (int i = 0; i < row.size(); i++) {
            int lacks = width - wide(words, first, row.get(i));
            if (lacks < 0) {
                return -1;
            }
            sum += i < row.size() - 1 ? lacks * lacks : 0;
            first += row.get(i);
        }
        return sum;
    }

    private static boolean isLess(List<Integer> row, List<Integer> other) {
        for (int i = 0; i < row.size() && i < other.size(); i++) {
            if (!row.get(i).equals(other.get(i))) {
                return row.get(i) < other.get(i);
            }
        }
        return false;
    }
}
