/** Promises 1 (a new object), 2 (feed), 3 (end), and what 26 (count) says of the tape. */
public final class TapeTest {
    public static void main(String[] args) {
        newObject();
        feeding();
        ending();
        bytesComeHighestFirst();
        Check.end();
    }

    private static void newObject() {
        HereLived x = new HereLived();
        for (int what = 0; what <= 5; what++) {
            Check.due("new: count(" + what + ")", x.count(what), 0);
        }
        Check.due("new: count(10)", x.count(10), -1);
        Check.due("new: possible", x.possible(0, 1, 1500), 0);
        Check.due("new: surely", x.surely(9, 999, 2100), -1);
        Check.due("new: lived", x.lived(0, 0, 0), -2);
        Check.due("new: falsify", x.falsify(0, true), -2);
        Check.due("new: against", x.against(0), -2);
        Check.due("new: about", x.about(0, 0), -9);
        Check.due("new: doubtful", x.doubtful(), 0);
        Check.due("new: fault(0)", x.fault(0), 0);
        Check.due("new: fault(1)", x.fault(1), -1);
        int[] rules = {20, 1, 1, 999, 1, 3, 50, 66, -9, -9, -1, -1, -1, -1, -1, -1, -1, -1, -9};
        for (int what = 0; what < rules.length; what++) {
            Check.due("new: rule(" + what + ")", x.rule(what), rules[what]);
        }
    }

    private static void feeding() {
        HereLived x = new HereLived();
        for (int n = 20; n <= 600; n += 20) {
            Check.due("feed to " + n, x.feed(n, n, n, n, n), n);
            Check.due("count(5)", x.count(5), n);
        }
        Check.due("feed beyond 600", x.feed(0, 0, 0, 0, 0), -3);
        Check.due("count(5) of a full tape", x.count(5), 600);
        Check.due("end(581)", x.end(581), 581);
        Check.due("feed to 601", x.feed(0, 0, 0, 0, 0), -3);
        Check.due("count(5) stays", x.count(5), 581);
        Check.due("end(580)", x.end(580), 580);
        Check.due("feed to 600", x.feed(0, 0, 0, 0, 0), 600);
    }

    private static void ending() {
        HereLived x = new HereLived();
        Check.due("end(0) of an empty tape", x.end(0), 0);
        Check.due("end(1) of an empty tape", x.end(1), -1);
        x.feed(1, 2, 3, 4, 5);
        Check.due("end(21)", x.end(21), -1);
        Check.due("end(-1)", x.end(-1), -1);
        Check.due("end(MIN)", x.end(Integer.MIN_VALUE), -1);
        Check.due("end(MAX)", x.end(Integer.MAX_VALUE), -1);
        Check.due("count(5) stays", x.count(5), 20);
        Check.due("end(20)", x.end(20), 20);
        Check.due("end(7)", x.end(7), 7);
        Check.due("end(8) of 7", x.end(8), -1);
        Check.due("feed behind 7", x.feed(0, 0, 0, 0, 0), 27);
        Check.due("end(0)", x.end(0), 0);
        Check.due("feed anew", x.feed(0, 0, 0, 0, 0), 20);
    }

    /** A text split over two feeds, cut between them, is read as one text. */
    private static void bytesComeHighestFirst() {
        HereLived x = new HereLived();
        Check.due("feed", x.feed(0x64656164, 0x20373b00, 0, 0, 0), 20);
        Check.due("end", x.end(7), 7);
        Check.due("feed", x.feed(0x6c697665, 0x64203132, 0x3b200a20, 0x6f6e6520, 0x6e6f3bff), 27);
        Check.due("end", x.end(26), 26);
        Check.due("rules", x.rules(), 3);
        Check.due("rule(0)", x.rule(0), 7);
        Check.due("rule(1)", x.rule(1), 12);
        Check.due("rule(4)", x.rule(4), 0);
        Check.due("count(5)", x.count(5), 0);
    }
}
