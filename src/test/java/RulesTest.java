/** Promises 13 (rules), 14 (fault), 15 (rule). */
public final class RulesTest {
    public static void main(String[] args) {
        told();
        untold();
        blanks();
        bounds();
        syntax();
        twice();
        leastKind();
        faultsLeaveRules();
        longTexts();
        otherWhat();
        Check.end();
    }

    private static void read(HereLived x, String text, int lines) {
        Check.tell(x, text);
        Check.due("rules of [" + text + "]", x.rules(), lines);
        Check.due("kind of [" + text + "]", x.fault(0), 0);
        Check.due("place of [" + text + "]", x.fault(1), -1);
        Check.due("tape behind [" + text + "]", x.count(5), 0);
    }

    private static void faulty(HereLived x, String text, int kind, int place) {
        Check.tell(x, text);
        Check.due("rules of [" + text + "]", x.rules(), -1);
        Check.due("kind of [" + text + "]", x.fault(0), kind);
        Check.due("place of [" + text + "]", x.fault(1), place);
        Check.due("tape behind [" + text + "]", x.count(5), 0);
    }

    private static void fault(String text, int kind, int place) {
        faulty(new HereLived(), text, kind, place);
    }

    private static void hold(String text, int what, int value) {
        HereLived x = new HereLived();
        Check.tell(x, text);
        x.rules();
        Check.due("rule(" + what + ") of [" + text + "]", x.rule(what), value);
    }

    private static void told() {
        HereLived x = new HereLived();
        read(x, "dead 5; lived 2; sources 3; span 100; one no; votes 7 60; down 75; theme 0 4; theme 7 0;", 9);
        int[] due = {5, 2, 3, 100, 0, 7, 60, 75, -9, -9, 4, -1, -1, -1, -1, -1, -1, 0, -9};
        for (int what = 0; what < due.length; what++) {
            Check.due("rule(" + what + ")", x.rule(what), due[what]);
        }
    }

    private static void untold() {
        HereLived x = new HereLived();
        read(x, "one no;dead 1;theme 3 3;", 3);
        read(x, "span 8;", 1);
        Check.due("one as without a text", x.rule(4), 1);
        Check.due("dead as without a text", x.rule(0), 20);
        Check.due("theme as without a text", x.rule(13), -1);
        Check.due("span", x.rule(3), 8);
        read(x, "", 0);
        Check.due("span as without a text", x.rule(3), 999);
        read(x, "one yes;", 1);
        Check.due("one yes", x.rule(4), 1);
    }

    private static void blanks() {
        read(new HereLived(), "dead5;lived2;votes 3 4;theme1 2;", 4);
        read(new HereLived(), " \n dead \n 5 \n ; \n\n", 1);
        read(new HereLived(), "one\nno\n;\n", 1);
        read(new HereLived(), "   \n  ", 0);
        fault("dead\t5;", 1, 4);
        fault("dead 5;\r", 1, 7);
        fault("oneno;", 1, 0);
    }

    private static void bounds() {
        hold("dead 0;", 0, 0);
        hold("dead 999;", 0, 999);
        hold("dead 0007;", 0, 7);
        fault("dead 1000;", 2, 5);
        hold("lived 999;", 1, 999);
        fault("lived 1000;", 2, 6);
        hold("sources 6;", 2, 6);
        hold("sources 0;", 2, 0);
        fault("sources 7;", 2, 8);
        hold("span 999;", 3, 999);
        fault("span 9999;", 2, 5);
        hold("votes 99 100;", 5, 99);
        hold("votes 99 100;", 6, 100);
        hold("votes 0 0;", 6, 0);
        fault("votes 100 50;", 2, 6);
        fault("votes 99 101;", 2, 9);
        hold("down 100;", 7, 100);
        hold("down 0;", 7, 0);
        fault("down 101;", 2, 5);
        hold("theme 7 99;", 17, 99);
        hold("theme 0 0;", 10, 0);
        fault("theme 8 1;", 2, 6);
        fault("theme 7 100;", 2, 8);
    }

    private static void syntax() {
        fault("dead", 1, 4);
        fault("dead ", 1, 5);
        fault("dead 5", 1, 6);
        fault("dead 5 \n ", 1, 9);
        fault("dead;", 1, 4);
        fault("dead 5 5;", 1, 7);
        fault("dead five;", 1, 5);
        fault("dead 5 lived 2;", 1, 7);
        fault("dead 00005;", 1, 5);
        fault("dead 12345;", 1, 5);
        fault("dead -5;", 1, 5);
        fault("dead 5;;", 1, 7);
        fault(";", 1, 0);
        fault("5;", 1, 0);
        fault("deads 5;", 1, 0);
        fault("dea 5;", 1, 0);
        fault("Dead 5;", 1, 0);
        fault("dEad 5;", 1, 1 - 1);
        fault("theme 1;", 1, 7);
        fault("theme 1 2 3;", 1, 10);
        fault("theme ;", 1, 6);
        fault("votes 5;", 1, 7);
        fault("votes 5 yes;", 1, 8);
        fault("one 1;", 1, 4);
        fault("one maybe;", 1, 4);
        fault("one;", 1, 3);
        fault("one yes no;", 1, 8);
        fault("one yesno;", 1, 4);
        fault("yes;", 1, 0);
        fault("one", 1, 3);
        fault("dead 5:", 1, 6);
        fault("dead 5;\u00ff", 1, 7);
        fault("\u0000", 1, 0);
        fault("dead 5;lived 2;spam 3;", 1, 15);
        fault("votes 3 00050;", 1, 8);
    }

    private static void twice() {
        fault("dead 5;dead 5;", 3, 7);
        fault("dead 5;lived 1;\ndead", 3, 16);
        fault("one yes;one no;", 3, 8);
        fault("votes 1 1;votes 1 1;", 3, 10);
        fault("lived 1;lived 1;", 3, 8);
        fault("sources 1;sources 1;", 3, 10);
        fault("span 1;span 1;", 3, 7);
        fault("down 1;down 1;", 3, 7);
        fault("theme 1 2;theme 2 2;theme 1 2;", 3, 26);
        fault("theme 0 2;theme 0", 3, 16);
        read(new HereLived(), "theme 1 2;theme 2 2;theme 0 1;theme 7 2;", 4);
    }

    private static void leastKind() {
        fault("dead 5;dead 1000;", 3, 7);
        fault("theme 1 1;theme 8 1;", 2, 16);
        fault("theme 1 1;theme 00001 1;", 1, 16);
        fault("dead 1000", 2, 5);
        fault("dead 1000;;", 2, 5);
        fault("dead 5;dead x", 3, 7);
    }

    private static void faultsLeaveRules() {
        HereLived x = new HereLived();
        Check.due("kind ahead of any", x.fault(0), 0);
        Check.due("place ahead of any", x.fault(1), -1);
        read(x, "dead 7;theme 2 9;", 2);
        faulty(x, "dead 8;one no;theme 2 1;theme 3 1;!", 1, 34);
        Check.due("dead stays", x.rule(0), 7);
        Check.due("one stays", x.rule(4), 1);
        Check.due("theme 2 stays", x.rule(12), 9);
        Check.due("theme 3 stays", x.rule(13), -1);
        read(x, "dead 9;", 1);
        Check.due("dead", x.rule(0), 9);
    }

    private static void longTexts() {
        StringBuilder text = new StringBuilder();
        for (int t = 0; t < 8; t++) {
            text.append("theme ").append(t).append(' ').append(t * 12).append(";\n");
        }
        while (text.length() < 592) {
            text.append(' ');
        }
        text.append("down 33;");
        HereLived x = new HereLived();
        read(x, text.toString(), 9);
        Check.due("theme 7", x.rule(17), 84);
        Check.due("down", x.rule(7), 33);
        text.setCharAt(599, 'x');
        faulty(x, text.toString(), 1, 599);
        text.setCharAt(599, ' ');
        faulty(x, text.toString(), 1, 600);
        faulty(x, "a".repeat(600), 1, 0);
        faulty(x, "9".repeat(600), 1, 0);
        faulty(x, ";".repeat(600), 1, 0);
        read(x, " ".repeat(600), 0);
    }

    private static void otherWhat() {
        HereLived x = new HereLived();
        Check.due("fault(2)", x.fault(2), -1);
        Check.due("fault(-1)", x.fault(-1), -1);
        for (int what : new int[] {-1, 8, 9, 18, 19, Integer.MIN_VALUE, Integer.MAX_VALUE}) {
            Check.due("rule(" + what + ")", x.rule(what), -9);
        }
    }
}
