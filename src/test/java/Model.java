import java.util.ArrayList;
import java.util.List;
import java.util.TreeSet;
import java.util.regex.Matcher;
import java.util.regex.Pattern;

/**
 * The document written once more, as slowly and literally as may be: year by year, way by way. ModelTest holds
 * HereLived against it.
 */
final class Model {
    record Numbering(int from, int to, int street, int number) {
    }

    record Person(int born, int died, int theme) {
    }

    static final class Paper {
        int person;
        int source;
        int street;
        int number;
        int from;
        int to;
        boolean isFalse;
    }

    static final class Asking {
        int person;
        int site;
        int year;
        int state;
        int yes;
        int no;
        int spoke = -1;
        List<Integer> row;
        List<Integer> widths;
    }

    final StringBuilder tape = new StringBuilder();
    final List<List<Numbering>> sites = new ArrayList<>();
    final List<Person> people = new ArrayList<>();
    final List<int[]> joined = new ArrayList<>();
    final List<Paper> papers = new ArrayList<>();
    final List<Asking> askings = new ArrayList<>();
    int[] rules = fresh();
    int kind;
    int place = -1;

    private static int[] fresh() {
        return new int[] {20, 1, 1, 999, 1, 3, 50, 66, -9, -9, -1, -1, -1, -1, -1, -1, -1, -1};
    }

    private static boolean in(int x, int low, int high) {
        return low <= x && x <= high;
    }

    private static boolean years(int from, int to) {
        return in(from, 1500, 2100) && in(to, 1500, 2100) && from <= to;
    }

    int feed(int[] ints) {
        if (tape.length() + 20 > 600) {
            return -3;
        }
        for (int four : ints) {
            tape.append((char) (four >> 24 & 255)).append((char) (four >> 16 & 255));
            tape.append((char) (four >> 8 & 255)).append((char) (four & 255));
        }
        return tape.length();
    }

    int end(int n) {
        if (!in(n, 0, tape.length())) {
            return -1;
        }
        tape.setLength(n);
        return n;
    }

    int site(int from, int to, int street, int number) {
        if (!years(from, to) || !in(street, 0, 9) || !in(number, 1, 999)) {
            return -2;
        }
        if (sites.size() == 40) {
            return -3;
        }
        sites.add(new ArrayList<>(List.of(new Numbering(from, to, street, number))));
        return sites.size() - 1;
    }

    int renumber(int s, int from, int to, int street, int number) {
        if (!in(s, 0, sites.size() - 1) || !years(from, to) || !in(number, 0, 999)) {
            return -2;
        }
        if (number > 0 && !in(street, 0, 9)) {
            return -2;
        }
        List<Numbering> all = sites.get(s);
        Numbering last = all.get(all.size() - 1);
        if (last.number == 0 || from <= last.to) {
            return -2;
        }
        if (all.size() == 8) {
            return -3;
        }
        all.add(new Numbering(from, to, street, number));
        return all.size();
    }

    private boolean may(int s, int i, int y) {
        List<Numbering> all = sites.get(s);
        return all.get(i).from <= y && (i + 1 == all.size() || all.get(i + 1).to > y);
    }

    private boolean surelyHolds(int s, int i, int y) {
        List<Numbering> all = sites.get(s);
        return all.get(i).to <= y && (i + 1 == all.size() || all.get(i + 1).from > y);
    }

    private boolean bears(int s, int i, int street, int number) {
        Numbering n = sites.get(s).get(i);
        return n.number == number && n.street == street;
    }

    private boolean isPossibly(int s, int street, int number, int y) {
        for (int i = 0; i < sites.get(s).size(); i++) {
            if (bears(s, i, street, number) && may(s, i, y)) {
                return true;
            }
        }
        return false;
    }

    long possible(int street, int number, int y) {
        if (!in(street, 0, 9) || !in(number, 1, 999) || !in(y, 1500, 2100)) {
            return -2;
        }
        long bits = 0;
        for (int s = 0; s < sites.size(); s++) {
            bits |= isPossibly(s, street, number, y) ? 1L << s : 0;
        }
        return bits;
    }

    int surely(int street, int number, int y) {
        long bits = possible(street, number, y);
        if (bits == -2) {
            return -2;
        }
        if (Long.bitCount(bits) != 1) {
            return -1;
        }
        int s = Long.numberOfTrailingZeros(bits);
        for (int i = 0; i < sites.get(s).size(); i++) {
            if (bears(s, i, street, number) && surelyHolds(s, i, y)) {
                return s;
            }
        }
        return -1;
    }

    int person(int born, int died, int theme) {
        if (!in(born, 1500, 2100) || died != -1 && !years(born, died) || !in(theme, 0, 7)) {
            return -2;
        }
        if (people.size() == 30) {
            return -3;
        }
        people.add(new Person(born, died, theme));
        return people.size() - 1;
    }

    private TreeSet<Integer> one(int p) {
        TreeSet<Integer> all = new TreeSet<>(List.of(p));
        for (int again = 0; again < joined.size(); again++) {
            for (int[] pair : joined) {
                if (all.contains(pair[0]) || all.contains(pair[1])) {
                    all.add(pair[0]);
                    all.add(pair[1]);
                }
            }
        }
        return all;
    }

    private boolean isPerson(int p) {
        return in(p, 0, people.size() - 1);
    }

    private boolean isSite(int s) {
        return in(s, 0, sites.size() - 1);
    }

    int join(int p, int q) {
        if (!isPerson(p) || !isPerson(q) || p == q) {
            return -2;
        }
        int answer = one(p).contains(q) ? 0 : 1;
        if (answer == 1) {
            joined.add(new int[] {p, q});
        }
        return answer;
    }

    int paper(int p, int source, int street, int number, int from, int to) {
        if (!isPerson(p) || !in(source, 0, 5) || !in(street, 0, 9) || !in(number, 1, 999) || !years(from, to)
            || to - from + 1 > 60) {
            return -2;
        }
        if (papers.size() == 100) {
            return -3;
        }
        Paper k = new Paper();
        k.person = p;
        k.source = source;
        k.street = street;
        k.number = number;
        k.from = from;
        k.to = to;
        papers.add(k);
        return papers.size() - 1;
    }

    int falsify(int k, boolean is) {
        if (!in(k, 0, papers.size() - 1)) {
            return -2;
        }
        boolean was = papers.get(k).isFalse;
        papers.get(k).isFalse = is;
        return was == is ? 0 : 1;
    }

    private TreeSet<Integer> sureYears(Paper k, int s) {
        TreeSet<Integer> found = new TreeSet<>();
        for (int y = k.from; y <= k.to; y++) {
            if (surely(k.street, k.number, y) == s) {
                found.add(y);
            }
        }
        return found;
    }

    private List<Paper> papersOf(int p) {
        TreeSet<Integer> all = one(p);
        List<Paper> found = new ArrayList<>();
        for (Paper k : papers) {
            if (!k.isFalse && all.contains(k.person)) {
                found.add(k);
            }
        }
        return found;
    }

    int lived(int p, int s, int what) {
        if (!isPerson(p) || !isSite(s)) {
            return -2;
        }
        TreeSet<Integer> sure = new TreeSet<>();
        TreeSet<Integer> maybe = new TreeSet<>();
        TreeSet<Integer> sources = new TreeSet<>();
        for (Paper k : papersOf(p)) {
            TreeSet<Integer> by = sureYears(k, s);
            sure.addAll(by);
            if (!by.isEmpty()) {
                sources.add(k.source);
            }
            for (int y = k.from; y <= k.to; y++) {
                if (isPossibly(s, k.street, k.number, y)) {
                    maybe.add(y);
                }
            }
        }
        return switch (what) {
            case 0 -> sure.size();
            case 1 -> maybe.size();
            case 2 -> sure.isEmpty() ? -1 : sure.first();
            case 3 -> sure.isEmpty() ? -1 : sure.last();
            case 4 -> sources.size();
            default -> -1;
        };
    }

    private static final List<String> LINES = List.of("dead NN", "lived NN", "sources NN", "span NN", "one yes", "one no",
        "votes NN NN", "down NN", "theme NN NN");

    private static boolean isBegun(String line) {
        for (String known : LINES) {
            if ((known + " ;").startsWith(line)) {
                return true;
            }
        }
        return false;
    }

    private static int most(String line) {
        return switch (line) {
            case "sources NN" -> 6;
            case "votes NN", "theme NN NN" -> 99;
            case "votes NN NN", "down NN" -> 100;
            case "theme NN" -> 7;
            default -> 999;
        };
    }

    private int faulty(int ofKind, int at) {
        kind = ofKind;
        place = at;
        return -1;
    }

    /** Each line is held as its TOKENS, NN (which is no TOKEN) for a number, against the lines that there may be. */
    int rules() {
        String text = tape.toString();
        tape.setLength(0);
        Matcher m = Pattern.compile("[a-z]+|[0-9]+|[^ \\n]", Pattern.DOTALL).matcher(text);
        int[] draft = fresh();
        TreeSet<String> told = new TreeSet<>();
        List<Integer> numbers = new ArrayList<>();
        String line = "";
        int lines = 0;
        while (m.find()) {
            String token = m.group();
            boolean number = token.matches("[0-9]{1,4}");
            String longer = (line.isEmpty() ? "" : line + " ") + (number ? "NN" : token);
            boolean whole = LINES.stream().anyMatch(known -> (known + " ").startsWith(longer + " "))
                || LINES.stream().anyMatch(known -> (known + " ;").equals(longer));
            if (!whole || !isBegun(longer)) {
                return faulty(1, m.start());
            }
            line = longer;
            if (number) {
                numbers.add(Integer.parseInt(token));
                if (numbers.get(numbers.size() - 1) > most(line)) {
                    return faulty(2, m.start());
                }
            }
            boolean first = line.equals(token) && !line.equals("theme");
            if (first && !told.add(line) || line.equals("theme NN") && !told.add("theme" + token)) {
                return faulty(3, m.start());
            }
            if (token.equals(";")) {
                put(draft, line, numbers);
                numbers.clear();
                line = "";
                lines++;
            }
        }
        if (!line.isEmpty()) {
            return faulty(1, text.length());
        }
        kind = 0;
        place = -1;
        rules = draft;
        return lines;
    }

    private static void put(int[] draft, String line, List<Integer> numbers) {
        switch (line.split(" ")[0]) {
            case "dead" -> draft[0] = numbers.get(0);
            case "lived" -> draft[1] = numbers.get(0);
            case "sources" -> draft[2] = numbers.get(0);
            case "span" -> draft[3] = numbers.get(0);
            case "one" -> draft[4] = line.startsWith("one yes") ? 1 : 0;
            case "votes" -> {
                draft[5] = numbers.get(0);
                draft[6] = numbers.get(1);
            }
            case "down" -> draft[7] = numbers.get(0);
            default -> draft[10 + numbers.get(0)] = numbers.get(1);
        }
    }

    int fault(int what) {
        return what == 0 ? kind : what == 1 ? place : -1;
    }

    int rule(int what) {
        return in(what, 0, 17) ? rules[what] : -9;
    }

    private boolean isAsking(int a) {
        return in(a, 0, askings.size() - 1);
    }

    int ask(int p, int s, int year) {
        if (!isPerson(p) || !isSite(s) || !in(year, 1500, 2100)) {
            return -2;
        }
        if (!askings.isEmpty() && year < askings.get(askings.size() - 1).year) {
            return -2;
        }
        if (askings.size() == 40) {
            return -3;
        }
        Asking a = new Asking();
        a.person = p;
        a.site = s;
        a.year = year;
        askings.add(a);
        return askings.size() - 1;
    }

    int against(int number) {
        if (!isAsking(number)) {
            return -2;
        }
        Asking a = askings.get(number);
        Person p = people.get(a.person);
        int bits = 0;
        bits += p.died == -1 || a.year - p.died < rules[0] ? 1 : 0;
        bits += lived(a.person, a.site, 0) < rules[1] ? 2 : 0;
        bits += lived(a.person, a.site, 4) < rules[2] ? 4 : 0;
        boolean stands = false;
        for (int i = 0; i < sites.get(a.site).size(); i++) {
            stands |= sites.get(a.site).get(i).number > 0 && surelyHolds(a.site, i, a.year);
        }
        bits += stands ? 0 : 8;
        boolean ofTheirs = false;
        boolean onSite = false;
        int ofTheme = 0;
        for (Asking b : askings) {
            if (b.state == 3) {
                ofTheirs |= one(a.person).contains(b.person);
                onSite |= a.site == b.site;
                ofTheme += people.get(b.person).theme == p.theme ? 1 : 0;
            }
        }
        bits += rules[4] == 1 && ofTheirs ? 16 : 0;
        bits += onSite ? 32 : 0;
        bits += rules[10 + p.theme] != -1 && ofTheme >= rules[10 + p.theme] ? 64 : 0;
        int last = lived(a.person, a.site, 3);
        bits += last == -1 || a.year - last > rules[3] ? 128 : 0;
        return bits;
    }

    int vote(int a, int yes, int no) {
        if (!isAsking(a) || !in(yes, 0, 99) || !in(no, 0, 99)) {
            return -2;
        }
        if (askings.get(a).state != 0) {
            return -4;
        }
        askings.get(a).yes = yes;
        askings.get(a).no = no;
        return 1;
    }

    int decide(int number) {
        if (!isAsking(number)) {
            return -2;
        }
        Asking a = askings.get(number);
        if (a.state != 0) {
            return -4;
        }
        a.spoke = against(number);
        boolean few = a.yes + a.no < rules[5];
        boolean small = a.yes + a.no > 0 && 100.0 * a.yes / (a.yes + a.no) < rules[6] - 1e-9;
        a.state = a.spoke != 0 || few || small ? 1 : 2;
        return a.state;
    }

    private static int width(String text) {
        int w = 0;
        for (char c : text.toCharArray()) {
            if ("ilj.,'! ".indexOf(c) >= 0) {
                w += 2;
            } else if ("mwMW".indexOf(c) >= 0) {
                w += 6;
            } else if (String.valueOf(c).matches("[a-z0-9]")) {
                w += 4;
            } else {
                w += String.valueOf(c).matches("[A-Z]") ? 5 : 3;
            }
        }
        return w;
    }

    private List<Integer> best;
    private int bestSum;

    /** Every way to part the words, in the order of their rows: the first of the least is the least row. */
    private void part(List<String> words, int at, List<Integer> row, int sum, int[] size) {
        if (at == words.size()) {
            return;
        }
        for (int n = 1; at + n <= words.size(); n++) {
            int w = width(String.join(" ", words.subList(at, at + n)));
            if (w > size[0] || row.size() == size[1]) {
                return;
            }
            row.add(n);
            if (at + n == words.size()) {
                if (best == null || sum < bestSum) {
                    best = new ArrayList<>(row);
                    bestSum = sum;
                }
            } else {
                part(words, at + n, row, sum + (size[0] - w) * (size[0] - w), size);
            }
            row.remove(row.size() - 1);
        }
    }

    int hang(int number, int width, int lines) {
        String text = tape.toString();
        tape.setLength(0);
        if (!isAsking(number) || !in(width, 1, 400) || !in(lines, 1, 8)) {
            return -2;
        }
        Asking a = askings.get(number);
        if (a.state != 2) {
            return -4;
        }
        List<String> words = new ArrayList<>();
        for (String word : text.split("[ \\n]+")) {
            if (!word.isEmpty()) {
                words.add(word);
            }
        }
        if (words.isEmpty() || words.size() > 40 || words.stream().anyMatch(w -> !w.matches("[!-~]{1,24}"))) {
            return -1;
        }
        TreeSet<Integer> sure = new TreeSet<>(List.of(people.get(a.person).born));
        sure.add(people.get(a.person).died);
        papersOf(a.person).forEach(k -> sure.addAll(sureYears(k, a.site)));
        for (String word : words) {
            for (String run : word.split("[^0-9]+")) {
                if (run.length() == 4 && !sure.contains(Integer.parseInt(run))) {
                    return -5;
                }
            }
        }
        best = null;
        part(words, 0, new ArrayList<>(), 0, new int[] {width, lines});
        if (best == null) {
            return -3;
        }
        a.row = best;
        a.widths = new ArrayList<>();
        int at = 0;
        for (int n : best) {
            a.widths.add(width(String.join(" ", words.subList(at, at + n))));
            at += n;
        }
        a.state = 3;
        return best.size();
    }

    private int ofLine(int a, int i, boolean wide) {
        if (!isAsking(a) || askings.get(a).state < 3) {
            return -2;
        }
        List<Integer> all = wide ? askings.get(a).widths : askings.get(a).row;
        return in(i, 0, all.size() - 1) ? all.get(i) : -1;
    }

    int line(int a, int i) {
        return ofLine(a, i, false);
    }

    int wide(int a, int i) {
        return ofLine(a, i, true);
    }

    int down(int a, int yes, int no) {
        if (!isAsking(a) || !in(yes, 0, 99) || !in(no, 0, 99)) {
            return -2;
        }
        if (askings.get(a).state != 3) {
            return -4;
        }
        if (yes + no > 0 && 100.0 * yes / (yes + no) >= rules[7] - 1e-9) {
            askings.get(a).state = 4;
        }
        return askings.get(a).state;
    }

    int about(int number, int what) {
        if (!isAsking(number) || !in(what, 0, 7)) {
            return -9;
        }
        Asking a = askings.get(number);
        int lines = a.row == null ? -1 : a.row.size();
        return new int[] {a.person, a.site, a.year, a.state, a.yes, a.no, a.spoke, lines}[what];
    }

    int doubtful() {
        int n = 0;
        for (int a = 0; a < askings.size(); a++) {
            n += askings.get(a).state == 3 && (against(a) & (1 | 2 | 4 | 8 | 128)) != 0 ? 1 : 0;
        }
        return n;
    }

    int count(int what) {
        return switch (what) {
            case 0 -> sites.size();
            case 1 -> people.size();
            case 2 -> papers.size();
            case 3 -> askings.size();
            case 4 -> (int) askings.stream().filter(a -> a.state == 3).count();
            case 5 -> tape.length();
            default -> what >= 10 && isSite(what - 10) ? sites.get(what - 10).size() : -1;
        };
    }
}
