import java.lang.reflect.Constructor;
import java.lang.reflect.Field;
import java.lang.reflect.Method;
import java.lang.reflect.Modifier;
import java.nio.file.Files;
import java.nio.file.Path;
import java.util.TreeSet;
import java.util.regex.Matcher;
import java.util.regex.Pattern;

/** The public face, and those rules of LANGUAGE.md that can be seen without reading with care. */
public final class FaceTest {
    private static final String[] FACE = {"int feed(int,int,int,int,int)", "int end(int)", "int site(int,int,int,int)",
        "int renumber(int,int,int,int,int)", "long possible(int,int,int)", "int surely(int,int,int)",
        "int person(int,int,int)", "int join(int,int)", "int paper(int,int,int,int,int,int)", "int falsify(int,boolean)",
        "int lived(int,int,int)", "int rules()", "int fault(int)", "int rule(int)", "int ask(int,int,int)",
        "int against(int)", "int vote(int,int,int)", "int decide(int)", "int hang(int,int,int)", "int line(int,int)",
        "int wide(int,int)", "int down(int,int,int)", "int about(int,int)", "int doubtful()", "int count(int)"};

    public static void main(String[] args) throws Exception {
        face();
        faceOfTheDocument();
        constants();
        nested();
        source();
        Check.end();
    }

    private static void face() {
        Check.that("public and final", HereLived.class.getModifiers() == (Modifier.PUBLIC | Modifier.FINAL));
        TreeSet<String> found = new TreeSet<>();
        TreeSet<String> names = new TreeSet<>();
        for (Method m : HereLived.class.getDeclaredMethods()) {
            if (Modifier.isPrivate(m.getModifiers())) {
                continue;
            }
            StringBuilder text = new StringBuilder(m.getReturnType() + " " + m.getName() + "(");
            for (Class<?> type : m.getParameterTypes()) {
                text.append(text.charAt(text.length() - 1) == '(' ? "" : ",").append(type);
            }
            found.add(text + ")");
            names.add(m.getName());
            Check.that(m + " is public", Modifier.isPublic(m.getModifiers()) && !Modifier.isStatic(m.getModifiers()));
        }
        Check.that("the methods are " + found, found.equals(new TreeSet<>(java.util.List.of(FACE))));
        for (Class<?> c : all()) {
            for (Method m : c.getDeclaredMethods()) {
                boolean ofFace = c == HereLived.class && Modifier.isPublic(m.getModifiers());
                Check.that(m + " bears a name of its own", ofFace || !names.contains(m.getName()));
                Check.that(m + " has seven parameters at most", m.getParameterCount() <= 7);
            }
        }
        Constructor<?>[] made = HereLived.class.getDeclaredConstructors();
        Check.that("one constructor", made.length == 1 && made[0].getParameterCount() == 0
            && Modifier.isPublic(made[0].getModifiers()));
    }

    /** FACE is what the document tells, so that this test shows it if the document changes. */
    private static void faceOfTheDocument() throws Exception {
        Path document = Path.of("../shared/DOC.md");
        if (!Files.exists(document)) {
            return;
        }
        TreeSet<String> told = new TreeSet<>();
        Matcher calls = Pattern.compile("public ((?:int|long) \\w+\\([^)]*\\));").matcher(Files.readString(document));
        while (calls.find()) {
            told.add(calls.group(1).replaceAll("(int|boolean) \\w+(?=[,)])", "$1").replace(", ", ","));
        }
        Check.that("the document tells " + told, told.equals(new TreeSet<>(java.util.List.of(FACE))));
    }

    private static void constants() throws Exception {
        Check.due("NONE", HereLived.NONE, -1);
        Check.due("RANGE", HereLived.RANGE, -2);
        Check.due("FULL", HereLived.FULL, -3);
        Check.due("STATE", HereLived.STATE, -4);
        int open = 0;
        for (Field f : HereLived.class.getDeclaredFields()) {
            open += Modifier.isPrivate(f.getModifiers()) ? 0 : 1;
        }
        Check.due("fields that aren't private", open, 4);
    }

    private static java.util.List<Class<?>> all() {
        java.util.List<Class<?>> all = new java.util.ArrayList<>();
        all.add(HereLived.class);
        all.addAll(java.util.List.of(HereLived.class.getDeclaredClasses()));
        return all;
    }

    private static void nested() {
        Check.that("twelve classes at most", all().size() <= 12);
        for (Class<?> c : all()) {
            int fields = 0;
            for (Field f : c.getDeclaredFields()) {
                boolean fixed = Modifier.isStatic(f.getModifiers());
                Check.that(f + " is final if static", !fixed || Modifier.isFinal(f.getModifiers()));
                fields += fixed ? 0 : 1;
            }
            Check.that(c + " has twenty fields at most", fields <= 20);
            Check.that(c + " is static", c == HereLived.class || Modifier.isStatic(c.getModifiers())
                && !Modifier.isPublic(c.getModifiers()) && !Modifier.isProtected(c.getModifiers()));
        }
    }

    private static void source() throws Exception {
        String text = Files.readString(Path.of("src/main/java/HereLived.java"));
        String code = text.replaceAll("(?s)/\\*.*?\\*/", "").replaceAll("//[^\n]*", "");
        String[] never = {"\\bthrow\\b", "\\btry\\b", "\\bcatch\\b", "\\bsynchronized\\b", "\\bassert\\b", "->", "::",
            "\\bimport\\b", "\\bpackage\\b", "Exact\\b", "\\bdouble\\b", "\\bfloat\\b", "\\bprotected\\b",
            "\\bequals\\b", "\\bhashCode\\b", "\\btoString\\b", "System\\.(?!arraycopy\\b)", "\\bvar\\b", "/", "%"};
        for (String word : never) {
            Check.that("no " + word, !Pattern.compile(word).matcher(code).find());
        }
        Check.that("signs of ASCII alone", text.chars().allMatch(c -> c == '\n' || c >= 32 && c < 127));
        objectsAreMadeByConstructors(code);
        methodsAreShort(code);
    }

    /** So that no run of calls can fill the room. */
    private static void objectsAreMadeByConstructors(String code) {
        String method = "";
        for (String line : code.split("\n")) {
            Matcher m = Pattern.compile("^ +[A-Za-z ]*?\\b([A-Za-z]+)\\([^;]*\\{$").matcher(line);
            if (m.find()) {
                method = m.group(1);
            }
            boolean makes = line.contains("new ");
            Check.that("a constructor makes: " + line, !makes || Character.isUpperCase(method.charAt(0)));
        }
    }

    private static void methodsAreShort(String code) {
        int open = 0;
        int lines = 0;
        int longest = 0;
        for (String line : code.split("\n")) {
            boolean begins = line.matches("^ +(?!.*\\bclass\\b).*\\) \\{$") && !line.matches("^ *(if|for|while|switch|\\}).*");
            if (begins && open == 0) {
                open = line.length() - line.stripLeading().length();
                lines = 0;
            }
            lines++;
            if (open > 0 && line.matches("^ {" + open + "}\\}$")) {
                longest = Math.max(longest, lines);
                open = 0;
            }
        }
        Check.that("methods are short: " + longest, longest > 20 && longest <= 60);
    }
}
