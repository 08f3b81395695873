import java.util.ArrayList;
import java.util.List;
import java.util.TreeSet;
import java.util.regex.Matcher;
import java.util.regex.Pattern;

/**
 * Promises 13 and 14: every row of up to three TOKENS, alone and behind beginnings of texts.
 * A row of TOKENS, each as one sign, goes on to a text if the document's grammar, as a pattern over these signs,
 * matches it or comes to its end while matching.
 */
public final class EveryTextTest {
    private static final String[] TOKENS = {"dead", "lived", "sources", "span", "one", "yes", "no", "votes", "down",
        "theme", ";", "0", "6", "7", "8", "99", "100", "101", "999", "1000", "0007", "00000", "dea", "deads", "Dead", ".",
        "\t"};
    private static final Pattern TEXT = Pattern.compile("(?:[dlrs]N;|o[yn];|vNN;|wN;|tNN;)*");
    private static final String[] BEGINNINGS = {"theme 7 1 ; theme", "theme 7 1 ; theme 6", "votes 3 50 ; votes",
        "one yes ; one", "one no ; dead 1 ; span 2 ;", "sources 6 ; down 100 ; lived 0 ;", "votes 0", "theme 0 99 ; theme 0007",
        "dead 1 ; theme 0 0 ; theme 1 1 ; theme 7 2 ; votes 1 1 ;"};
    private static final int CALLS = 512;

    private static HereLived desk;
    private static int calls = CALLS;
    private static int faults;
    private static int faultless;

    public static void main(String[] args) {
        everyRow(new ArrayList<>(), 3);
        for (String beginning : BEGINNINGS) {
            everyRow(new ArrayList<>(List.of(beginning.split(" "))), 3);
        }
        Check.that("texts with and without faults: " + faults + ", " + faultless, faults > 9999 && faultless > 99);
        Check.end();
    }

    private static void everyRow(List<String> row, int more) {
        hold(row);
        if (more == 0) {
            return;
        }
        for (String token : TOKENS) {
            row.add(token);
            everyRow(row, more - 1);
            row.remove(row.size() - 1);
        }
    }

    /** Blanks are put where TOKENS would run together, and here and there besides. */
    private static void hold(List<String> row) {
        StringBuilder text = new StringBuilder();
        int[] places = new int[row.size() + 1];
        for (int i = 0; i < row.size(); i++) {
            boolean needed = i > 0 && kind(row.get(i)) == kind(row.get(i - 1));
            text.append(needed ? "\n" : "").append(row.size() % 2 == 0 ? " " : "");
            places[i] = text.length();
            text.append(row.get(i));
        }
        text.append(row.size() % 3 == 0 ? " \n" : "");
        places[row.size()] = text.length();
        if (calls + 12 > CALLS) {
            desk = new HereLived();
            calls = 0;
        }
        calls += 4 + (text.length() + 19) / 20;
        Check.tell(desk, text.toString());
        int fault = firstFault(row);
        Check.due("rules [" + text + "]", desk.rules(), fault == 0 ? row.stream().filter(";"::equals).count() : -1);
        Check.due("fault(0) [" + text + "]", desk.fault(0), fault % 10);
        Check.due("fault(1) [" + text + "]", desk.fault(1), fault == 0 ? -1 : places[fault / 10]);
        faults += fault == 0 ? 0 : 1;
        faultless += fault == 0 ? 1 : 0;
    }

    private static int kind(String token) {
        char sign = token.charAt(token.length() - 1);
        return Character.isDigit(sign) ? 1 : sign >= 'a' && sign <= 'z' ? 2 : 3;
    }

    /** Ten times the TOKEN's number, and the KIND; 0 without. */
    private static int firstFault(List<String> row) {
        String signs = "";
        TreeSet<String> told = new TreeSet<>();
        for (int i = 0; i < row.size(); i++) {
            String token = row.get(i);
            signs += sign(token);
            Matcher m = TEXT.matcher(signs);
            if (!m.matches() && !m.hitEnd()) {
                return i * 10 + 1;
            }
            String line = signs.substring(signs.lastIndexOf(';', signs.length() - 2) + 1);
            if (line.endsWith("N") && Integer.parseInt(token) > most(line)) {
                return i * 10 + 2;
            }
            boolean first = line.length() == 1 && !line.equals("t") && !line.equals(";");
            if (first && !told.add(line) || line.equals("tN") && !told.add("t" + Integer.parseInt(token))) {
                return i * 10 + 3;
            }
        }
        return TEXT.matcher(signs).matches() ? 0 : row.size() * 10 + 1;
    }

    private static String sign(String token) {
        if (token.matches("[0-9]{1,4}")) {
            return "N";
        }
        return switch (token) {
            case "dead" -> "d";
            case "lived" -> "l";
            case "sources" -> "r";
            case "span" -> "s";
            case "one" -> "o";
            case "yes" -> "y";
            case "no" -> "n";
            case "votes" -> "v";
            case "down" -> "w";
            case "theme" -> "t";
            case ";" -> ";";
            default -> "?";
        };
    }

    private static int most(String line) {
        return switch (line) {
            case "dN", "lN", "sN" -> 999;
            case "rN" -> 6;
            case "vN", "tNN" -> 99;
            case "vNN", "wN" -> 100;
            default -> 7;
        };
    }
}
