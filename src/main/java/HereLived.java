/**
 * A desk for plaques on houses. The words in capitals in the comments are those of the document, whose promises say
 * what each public call answers. Everything that a call needs is made once, by the constructor: no call makes an object.
 */
public final class HereLived {
    public static final int NONE = -1;
    public static final int RANGE = -2;
    public static final int FULL = -3;
    public static final int STATE = -4;

    private static final int UNSURE_YEAR = -5;
    private static final int NO_SUCH_THING = -9;

    private static final int FIRST_YEAR = 1500;
    private static final int LAST_YEAR = 2100;
    private static final int LAST_STREET = 9;
    private static final int LAST_NUMBER = 999;
    private static final int LAST_THEME = 7;
    private static final int LAST_SOURCE = 5;
    private static final int MOST_VOTES = 99;

    private static final int MOST_SITES = 40;
    private static final int MOST_NUMBERINGS = 8;
    private static final int MOST_PEOPLE = 30;
    private static final int MOST_PAPERS = 100;
    private static final int MOST_PAPER_YEARS = 60;
    private static final int MOST_ASKINGS = 40;
    private static final int MOST_LINES = 8;
    private static final int MOST_WIDTH = 400;
    private static final int MOST_WORDS = 40;
    private static final int MOST_WORD_BYTES = 24;
    private static final int MOST_TAPE_BYTES = 600;
    private static final int FEED_BYTES = 20;

    private static final int OPEN = 0;
    private static final int REFUSED = 1;
    private static final int GRANTED = 2;
    private static final int HANGS = 3;
    private static final int TAKEN_DOWN = 4;

    private static final int DEAD_TOO_SHORT = 1;
    private static final int FEW_YEARS = 2;
    private static final int FEW_SOURCES = 4;
    private static final int SITE_MAY_BE_GONE = 8;
    private static final int PERSON_HAS_PLAQUE = 16;
    private static final int SITE_HAS_PLAQUE = 32;
    private static final int THEME_IS_FULL = 64;
    private static final int LIVED_TOO_LONG_AGO = 128;

    private static final int RULE_DEAD = 0;
    private static final int RULE_LIVED = 1;
    private static final int RULE_SOURCES = 2;
    private static final int RULE_SPAN = 3;
    private static final int RULE_ONE = 4;
    private static final int RULE_VOTES = 5;
    private static final int RULE_SHARE = 6;
    private static final int RULE_DOWN = 7;
    private static final int RULE_THEME = 10;
    private static final int RULE_PLACES = 18;

    private final Tape tape;
    private final Sites sites;
    private final People people;
    private final Papers papers;
    private final Stay stay;
    private final RuleBook book;
    private final RuleReader reader;
    private final Askings askings;
    private final Words words;
    private final Fitting fitting;

    public HereLived() {
        tape = new Tape();
        sites = new Sites();
        people = new People();
        papers = new Papers();
        stay = new Stay(sites, people, papers);
        book = new RuleBook();
        reader = new RuleReader(tape);
        askings = new Askings();
        words = new Words();
        fitting = new Fitting();
    }

    // ---- the tape

    public int feed(int a, int b, int c, int d, int e) {
        if (tape.length + FEED_BYTES > MOST_TAPE_BYTES) {
            return FULL;
        }
        tape.append(a);
        tape.append(b);
        tape.append(c);
        tape.append(d);
        tape.append(e);
        return tape.length;
    }

    public int end(int n) {
        if (n < 0 || n > tape.length) {
            return NONE;
        }
        tape.length = n;
        return n;
    }

    // ---- sites

    public int site(int from, int to, int street, int number) {
        if (!isSpan(from, to) || !isAddress(street, number)) {
            return RANGE;
        }
        if (sites.size >= MOST_SITES) {
            return FULL;
        }
        int s = sites.size;
        sites.size = s + 1;
        sites.addNumbering(s, from, to, street, number);
        return s;
    }

    public int renumber(int s, int from, int to, int street, int number) {
        if (!isSite(s) || !isSpan(from, to)) {
            return RANGE;
        }
        if (number != 0 && !isAddress(street, number)) {
            return RANGE;
        }
        if (sites.isGone(s) || from <= sites.latestChange(s)) {
            return RANGE;
        }
        if (sites.numberings[s] >= MOST_NUMBERINGS) {
            return FULL;
        }
        sites.addNumbering(s, from, to, street, number);
        return sites.numberings[s];
    }

    public long possible(int street, int number, int year) {
        if (!isAddress(street, number) || !isYear(year)) {
            return RANGE;
        }
        long bits = 0;
        for (int s = 0; s < sites.size; s++) {
            if (sites.yearsMaybe(s, street, number, year, year) != 0) {
                bits |= 1L << s;
            }
        }
        return bits;
    }

    public int surely(int street, int number, int year) {
        if (!isAddress(street, number) || !isYear(year)) {
            return RANGE;
        }
        for (int s = 0; s < sites.size; s++) {
            if (sites.yearsSurely(s, street, number, year, year) != 0) {
                return s;
            }
        }
        return NONE;
    }

    // ---- people, papers

    public int person(int born, int died, int theme) {
        if (!isYear(born) || !isTheme(theme)) {
            return RANGE;
        }
        if (died != NONE && !isSpan(born, died)) {
            return RANGE;
        }
        if (people.size >= MOST_PEOPLE) {
            return FULL;
        }
        return people.add(born, died, theme);
    }

    public int join(int p, int q) {
        if (!isPerson(p) || !isPerson(q) || p == q) {
            return RANGE;
        }
        if (people.areOne(p, q)) {
            return 0;
        }
        people.makeOne(p, q);
        return 1;
    }

    public int paper(int p, int source, int street, int number, int from, int to) {
        if (!isPerson(p) || source < 0 || source > LAST_SOURCE || !isAddress(street, number)) {
            return RANGE;
        }
        if (!isSpan(from, to) || to - from >= MOST_PAPER_YEARS) {
            return RANGE;
        }
        if (papers.size >= MOST_PAPERS) {
            return FULL;
        }
        return papers.add(p, source, street, number, from, to);
    }

    public int falsify(int k, boolean is) {
        if (k < 0 || k >= papers.size) {
            return RANGE;
        }
        if (papers.isFalse[k] == is) {
            return 0;
        }
        papers.isFalse[k] = is;
        return 1;
    }

    public int lived(int p, int s, int what) {
        if (!isPerson(p) || !isSite(s)) {
            return RANGE;
        }
        stay.study(p, s);
        switch (what) {
            case 0:
                return stay.sureYears();
            case 1:
                return stay.maybeYears();
            case 2:
                return stay.firstSureYear();
            case 3:
                return stay.lastSureYear();
            case 4:
                return stay.sources();
            default:
                return NONE;
        }
    }

    // ---- rules, askings

    public int rules() {
        reader.read();
        tape.length = 0;
        if (reader.faultKind != 0) {
            return NONE;
        }
        book.copy(reader.draft);
        return reader.lines;
    }

    public int fault(int what) {
        switch (what) {
            case 0:
                return reader.faultKind;
            case 1:
                return reader.faultPlace;
            default:
                return NONE;
        }
    }

    public int rule(int what) {
        boolean known = what >= RULE_DEAD && what <= RULE_DOWN || what >= RULE_THEME && what < RULE_PLACES;
        return known ? book.told[what] : NO_SUCH_THING;
    }

    public int ask(int p, int s, int year) {
        if (!isPerson(p) || !isSite(s) || !isYear(year) || year < askings.latestYear()) {
            return RANGE;
        }
        if (askings.size >= MOST_ASKINGS) {
            return FULL;
        }
        return askings.add(p, s, year);
    }

    public int against(int a) {
        if (!isAsking(a)) {
            return RANGE;
        }
        return factsAgainst(a) | plaquesAgainst(a);
    }

    public int vote(int a, int yes, int no) {
        if (!isAsking(a) || !isVotes(yes) || !isVotes(no)) {
            return RANGE;
        }
        if (askings.state[a] != OPEN) {
            return STATE;
        }
        askings.yes[a] = yes;
        askings.no[a] = no;
        return 1;
    }

    public int decide(int a) {
        if (!isAsking(a)) {
            return RANGE;
        }
        if (askings.state[a] != OPEN) {
            return STATE;
        }
        int bits = factsAgainst(a) | plaquesAgainst(a);
        askings.spokeAgainst[a] = bits;
        askings.state[a] = bits == 0 && votesSuffice(a) ? GRANTED : REFUSED;
        return askings.state[a];
    }

    public int hang(int a, int width, int lines) {
        int answer = hangFromTape(a, width, lines);
        tape.length = 0;
        return answer;
    }

    public int line(int a, int i) {
        if (!isPlaque(a)) {
            return RANGE;
        }
        return askings.hasLine(a, i) ? askings.lineWords[a * MOST_LINES + i] : NONE;
    }

    public int wide(int a, int i) {
        if (!isPlaque(a)) {
            return RANGE;
        }
        return askings.hasLine(a, i) ? askings.lineWidths[a * MOST_LINES + i] : NONE;
    }

    public int down(int a, int yes, int no) {
        if (!isAsking(a) || !isVotes(yes) || !isVotes(no)) {
            return RANGE;
        }
        if (askings.state[a] != HANGS) {
            return STATE;
        }
        int all = yes + no;
        if (all >= 1 && yes * 100 >= book.told[RULE_DOWN] * all) {
            askings.state[a] = TAKEN_DOWN;
        }
        return askings.state[a];
    }

    public int about(int a, int what) {
        if (!isAsking(a)) {
            return NO_SUCH_THING;
        }
        switch (what) {
            case 0:
                return askings.ofPerson[a];
            case 1:
                return askings.ofSite[a];
            case 2:
                return askings.year[a];
            case 3:
                return askings.state[a];
            case 4:
                return askings.yes[a];
            case 5:
                return askings.no[a];
            case 6:
                return askings.spokeAgainst[a];
            case 7:
                return askings.lines[a];
            default:
                return NO_SUCH_THING;
        }
    }

    public int doubtful() {
        int doubts = 0;
        for (int a = 0; a < askings.size; a++) {
            if (askings.state[a] == HANGS && factsAgainst(a) != 0) {
                doubts++;
            }
        }
        return doubts;
    }

    public int count(int what) {
        if (what >= 10 && what < 10 + sites.size) {
            return sites.numberings[what - 10];
        }
        switch (what) {
            case 0:
                return sites.size;
            case 1:
                return people.size;
            case 2:
                return papers.size;
            case 3:
                return askings.size;
            case 4:
                return askings.hanging();
            case 5:
                return tape.length;
            default:
                return NONE;
        }
    }

    // ---- what may be told

    private static boolean isYear(int year) {
        return year >= FIRST_YEAR && year <= LAST_YEAR;
    }

    private static boolean isSpan(int from, int to) {
        return isYear(from) && isYear(to) && from <= to;
    }

    private static boolean isAddress(int street, int number) {
        return street >= 0 && street <= LAST_STREET && number >= 1 && number <= LAST_NUMBER;
    }

    private static boolean isTheme(int theme) {
        return theme >= 0 && theme <= LAST_THEME;
    }

    private static boolean isVotes(int votes) {
        return votes >= 0 && votes <= MOST_VOTES;
    }

    private boolean isSite(int s) {
        return s >= 0 && s < sites.size;
    }

    private boolean isPerson(int p) {
        return p >= 0 && p < people.size;
    }

    private boolean isAsking(int a) {
        return a >= 0 && a < askings.size;
    }

    private boolean isPlaque(int a) {
        return isAsking(a) && (askings.state[a] == HANGS || askings.state[a] == TAKEN_DOWN);
    }

    // ---- judging

    /** What speaks against an ASKING but for the PLAQUES that hang: doubtful() asks for this part alone. */
    private int factsAgainst(int a) {
        int p = askings.ofPerson[a];
        int s = askings.ofSite[a];
        int year = askings.year[a];
        stay.study(p, s);
        int bits = 0;
        if (people.died[p] == NONE || year - people.died[p] < book.told[RULE_DEAD]) {
            bits |= DEAD_TOO_SHORT;
        }
        if (stay.sureYears() < book.told[RULE_LIVED]) {
            bits |= FEW_YEARS;
        }
        if (stay.sources() < book.told[RULE_SOURCES]) {
            bits |= FEW_SOURCES;
        }
        if (!sites.surelyNumbered(s, year)) {
            bits |= SITE_MAY_BE_GONE;
        }
        int last = stay.lastSureYear();
        if (last == NONE || year - last > book.told[RULE_SPAN]) {
            bits |= LIVED_TOO_LONG_AGO;
        }
        return bits;
    }

    private int plaquesAgainst(int a) {
        int p = askings.ofPerson[a];
        int theme = people.theme[p];
        int ofTheme = 0;
        int bits = 0;
        for (int b = 0; b < askings.size; b++) {
            if (askings.state[b] != HANGS) {
                continue;
            }
            int q = askings.ofPerson[b];
            if (book.told[RULE_ONE] == 1 && people.areOne(p, q)) {
                bits |= PERSON_HAS_PLAQUE;
            }
            if (askings.ofSite[b] == askings.ofSite[a]) {
                bits |= SITE_HAS_PLAQUE;
            }
            if (people.theme[q] == theme) {
                ofTheme++;
            }
        }
        int most = book.told[RULE_THEME + theme];
        if (most != NONE && ofTheme >= most) {
            bits |= THEME_IS_FULL;
        }
        return bits;
    }

    private boolean votesSuffice(int a) {
        int all = askings.yes[a] + askings.no[a];
        return all >= book.told[RULE_VOTES] && askings.yes[a] * 100 >= book.told[RULE_SHARE] * all;
    }

    // ---- words of a plaque

    private int hangFromTape(int a, int width, int lines) {
        if (!isAsking(a) || width < 1 || width > MOST_WIDTH || lines < 1 || lines > MOST_LINES) {
            return RANGE;
        }
        if (askings.state[a] != GRANTED) {
            return STATE;
        }
        if (!words.split(tape)) {
            return NONE;
        }
        stay.study(askings.ofPerson[a], askings.ofSite[a]);
        if (!yearsAreSure(askings.ofPerson[a])) {
            return UNSURE_YEAR;
        }
        if (!fitting.fits(words, width, lines)) {
            return FULL;
        }
        askings.keepLines(a, fitting);
        askings.state[a] = HANGS;
        return askings.lines[a];
    }

    /** Blanks part WORDS, so a run of digits on the tape never reaches over two of them. */
    private boolean yearsAreSure(int p) {
        int run = 0;
        int value = 0;
        for (int i = 0; i <= tape.length; i++) {
            int sign = i < tape.length ? tape.bytes[i] : ' ';
            if (isDigit(sign)) {
                run++;
                value = run <= 4 ? value * 10 + (sign - '0') : 0;
                continue;
            }
            if (run == 4 && !isSureYear(p, value)) {
                return false;
            }
            run = 0;
            value = 0;
        }
        return true;
    }

    private boolean isSureYear(int p, int year) {
        return year == people.born[p] || year == people.died[p] || stay.isSure(year);
    }

    private static boolean isDigit(int sign) {
        return sign >= '0' && sign <= '9';
    }

    private static boolean isSmallLetter(int sign) {
        return sign >= 'a' && sign <= 'z';
    }

    private static boolean isBlank(int sign) {
        return sign == 32 || sign == 10;
    }

    /** THE TAPE: bytes as numbers 0 .. 255. */
    private static final class Tape {
        final int[] bytes;
        int length;

        Tape() {
            bytes = new int[MOST_TAPE_BYTES];
        }

        void append(int four) {
            for (int shift = 24; shift >= 0 && length < MOST_TAPE_BYTES; shift -= 8) {
                bytes[length] = (four >>> shift) & 255;
                length++;
            }
        }
    }

    /**
     * SITES with their NUMBERINGS; numbering i of site s stands at s * MOST_NUMBERINGS + i. Years of a short span
     * (60 at most) are answered as bits, the span's first year lowest, so that a PAPER's years are held against a
     * NUMBERING's in one step.
     */
    private static final class Sites {
        final int[] numberings;
        final int[] from;
        final int[] to;
        final int[] street;
        final int[] number;
        int size;

        Sites() {
            numberings = new int[MOST_SITES];
            from = new int[MOST_SITES * MOST_NUMBERINGS];
            to = new int[MOST_SITES * MOST_NUMBERINGS];
            street = new int[MOST_SITES * MOST_NUMBERINGS];
            number = new int[MOST_SITES * MOST_NUMBERINGS];
        }

        void addNumbering(int s, int first, int last, int onStreet, int bears) {
            int i = s * MOST_NUMBERINGS + numberings[s];
            from[i] = first;
            to[i] = last;
            street[i] = onStreet;
            number[i] = bears;
            numberings[s]++;
        }

        boolean isGone(int s) {
            return number[latestOf(s)] == 0;
        }

        int latestChange(int s) {
            return to[latestOf(s)];
        }

        /** A SITE has one NUMBERING at least, from the call that made it. */
        private int latestOf(int s) {
            return s * MOST_NUMBERINGS + numberings[s] - 1;
        }

        boolean surelyNumbered(int s, int year) {
            int latest = latestOf(s);
            for (int i = s * MOST_NUMBERINGS; i <= latest; i++) {
                boolean begun = to[i] <= year;
                boolean unended = i == latest || from[i + 1] > year;
                if (number[i] != 0 && begun && unended) {
                    return true;
                }
            }
            return false;
        }

        /** The years of first .. last in which the STREET and number is POSSIBLY this SITE. */
        long yearsMaybe(int s, int onStreet, int bears, int first, int last) {
            long years = 0;
            int latest = latestOf(s);
            for (int i = s * MOST_NUMBERINGS; i <= latest; i++) {
                if (street[i] == onStreet && number[i] == bears) {
                    int until = i < latest ? to[i + 1] - 1 : LAST_YEAR;
                    years |= yearBits(from[i], until, first, last);
                }
            }
            return years;
        }

        /** The years of first .. last in which the STREET and number is SURELY this SITE. */
        long yearsSurely(int s, int onStreet, int bears, int first, int last) {
            long years = 0;
            int latest = latestOf(s);
            for (int i = s * MOST_NUMBERINGS; i <= latest; i++) {
                if (street[i] == onStreet && number[i] == bears) {
                    int until = i < latest ? from[i + 1] - 1 : LAST_YEAR;
                    years |= yearBits(to[i], until, first, last);
                }
            }
            for (int other = 0; other < size && years != 0; other++) {
                if (other != s) {
                    years &= ~yearsMaybe(other, onStreet, bears, first, last);
                }
            }
            return years;
        }

        private static long yearBits(int begin, int until, int first, int last) {
            int low = begin > first ? begin : first;
            int high = until < last ? until : last;
            return low > high ? 0 : ((1L << (high - low + 1)) - 1) << (low - first);
        }
    }

    /** PEOPLE; those that are ONE bear the same mark. */
    private static final class People {
        final int[] born;
        final int[] died;
        final int[] theme;
        final int[] mark;
        int size;

        People() {
            born = new int[MOST_PEOPLE];
            died = new int[MOST_PEOPLE];
            theme = new int[MOST_PEOPLE];
            mark = new int[MOST_PEOPLE];
        }

        int add(int birth, int death, int ofTheme) {
            int p = size;
            born[p] = birth;
            died[p] = death;
            theme[p] = ofTheme;
            mark[p] = p;
            size++;
            return p;
        }

        boolean areOne(int p, int q) {
            return mark[p] == mark[q];
        }

        void makeOne(int p, int q) {
            int gone = mark[q];
            for (int r = 0; r < size; r++) {
                if (mark[r] == gone) {
                    mark[r] = mark[p];
                }
            }
        }
    }

    private static final class Papers {
        final int[] ofPerson;
        final int[] source;
        final int[] street;
        final int[] number;
        final int[] from;
        final int[] to;
        final boolean[] isFalse;
        int size;

        Papers() {
            ofPerson = new int[MOST_PAPERS];
            source = new int[MOST_PAPERS];
            street = new int[MOST_PAPERS];
            number = new int[MOST_PAPERS];
            from = new int[MOST_PAPERS];
            to = new int[MOST_PAPERS];
            isFalse = new boolean[MOST_PAPERS];
        }

        int add(int p, int bySource, int onStreet, int atNumber, int first, int last) {
            int k = size;
            ofPerson[k] = p;
            source[k] = bySource;
            street[k] = onStreet;
            number[k] = atNumber;
            from[k] = first;
            to[k] = last;
            size++;
            return k;
        }
    }

    /** LIVED: the years of one of the PEOPLE in a SITE, studied anew for each question, since PAPERS and SITES change. */
    private static final class Stay {
        private static final int ROWS = 10;
        private final Sites sites;
        private final People people;
        private final Papers papers;
        /** One bit a year, FIRST_YEAR lowest in the first row. */
        private final long[] sure;
        private final long[] maybe;
        private int sourceBits;

        Stay(Sites allSites, People allPeople, Papers allPapers) {
            sites = allSites;
            people = allPeople;
            papers = allPapers;
            sure = new long[ROWS];
            maybe = new long[ROWS];
        }

        void study(int p, int s) {
            for (int row = 0; row < ROWS; row++) {
                sure[row] = 0;
                maybe[row] = 0;
            }
            sourceBits = 0;
            for (int k = 0; k < papers.size; k++) {
                if (!papers.isFalse[k] && people.areOne(papers.ofPerson[k], p)) {
                    addPaper(k, s);
                }
            }
        }

        private void addPaper(int k, int s) {
            int first = papers.from[k];
            int last = papers.to[k];
            long possibly = sites.yearsMaybe(s, papers.street[k], papers.number[k], first, last);
            long certainly = sites.yearsSurely(s, papers.street[k], papers.number[k], first, last);
            addYears(maybe, possibly, first);
            addYears(sure, certainly, first);
            if (certainly != 0) {
                sourceBits |= 1 << papers.source[k];
            }
        }

        /** Years told as bits from a first year on reach into two rows at most. */
        private static void addYears(long[] rows, long years, int first) {
            int row = (first - FIRST_YEAR) >> 6;
            int shift = (first - FIRST_YEAR) & 63;
            rows[row] |= years << shift;
            if (shift != 0 && row + 1 < ROWS) {
                rows[row + 1] |= years >>> (64 - shift);
            }
        }

        boolean isSure(int year) {
            if (!isYear(year)) {
                return false;
            }
            int bit = year - FIRST_YEAR;
            return ((sure[bit >> 6] >>> (bit & 63)) & 1) != 0;
        }

        int sureYears() {
            return bitsOf(sure);
        }

        int maybeYears() {
            return bitsOf(maybe);
        }

        private static int bitsOf(long[] rows) {
            int bits = 0;
            for (int row = 0; row < ROWS; row++) {
                bits += Long.bitCount(rows[row]);
            }
            return bits;
        }

        int firstSureYear() {
            for (int row = 0; row < ROWS; row++) {
                if (sure[row] != 0) {
                    return FIRST_YEAR + row * 64 + Long.numberOfTrailingZeros(sure[row]);
                }
            }
            return NONE;
        }

        int lastSureYear() {
            for (int row = ROWS - 1; row >= 0; row--) {
                if (sure[row] != 0) {
                    return FIRST_YEAR + row * 64 + 63 - Long.numberOfLeadingZeros(sure[row]);
                }
            }
            return NONE;
        }

        int sources() {
            return Integer.bitCount(sourceBits);
        }
    }

    /** RULES, each at the place by which rule() asks for it. */
    private static final class RuleBook {
        final int[] told;

        RuleBook() {
            told = new int[RULE_PLACES];
            tellNothing();
        }

        /** What RULES are where a text doesn't tell them. */
        void tellNothing() {
            told[RULE_DEAD] = 20;
            told[RULE_LIVED] = 1;
            told[RULE_SOURCES] = 1;
            told[RULE_SPAN] = 999;
            told[RULE_ONE] = 1;
            told[RULE_VOTES] = 3;
            told[RULE_SHARE] = 50;
            told[RULE_DOWN] = 66;
            for (int t = 0; t <= LAST_THEME; t++) {
                told[RULE_THEME + t] = NONE;
            }
        }

        void copy(RuleBook other) {
            System.arraycopy(other.told, 0, told, 0, RULE_PLACES);
        }
    }

    /** Reads THE TAPE as the text of RULES, TOKEN by TOKEN, into a draft, so that a FAULT leaves the RULES as they were. */
    private static final class RuleReader {
        private static final int SYNTAX = 1;
        private static final int OUT_OF_BOUNDS = 2;
        private static final int TWICE = 3;
        private static final int FAULTLESS = 0;

        private static final int LINE_WORDS = 8;
        private static final int ONE_LINE = 4;
        private static final int VOTES_LINE = 5;
        private static final int DOWN_LINE = 6;
        private static final int THEME_LINE = 7;
        private static final int MOST_DIGITS = 4;

        final RuleBook draft;
        int lines;
        int faultKind;
        int faultPlace;
        private final Tape tape;
        private int tokenStart;
        private int tokenEnd;
        /** Which line is being read, NONE between lines, and how many of its parts were read behind its first WORD. */
        private int lineWord;
        private int parts;
        private int theme;
        /** A bit for each first WORD, and for each THEME, that this text told. */
        private int toldWords;
        private int toldThemes;

        RuleReader(Tape textTape) {
            tape = textTape;
            draft = new RuleBook();
            faultKind = FAULTLESS;
            faultPlace = NONE;
        }

        void read() {
            draft.tellNothing();
            lines = 0;
            faultKind = FAULTLESS;
            faultPlace = NONE;
            lineWord = NONE;
            parts = 0;
            toldThemes = 0;
            toldWords = 0;
            tokenEnd = 0;
            // A TOKEN has a byte at least: there are no more of them than bytes.
            for (int tokens = 0; tokens < tape.length && tokenEnd < tape.length; tokens++) {
                findToken();
                faultKind = tokenStart < tape.length ? takeToken() : FAULTLESS;
                if (faultKind != FAULTLESS) {
                    faultPlace = tokenStart;
                    return;
                }
            }
            if (lineWord != NONE) {
                faultKind = SYNTAX;
                faultPlace = tape.length;
            }
        }

        /** A TOKEN is a run of small letters, a run of digits, or one byte. */
        private void findToken() {
            int i = tokenEnd;
            while (i < tape.length && isBlank(tape.bytes[i])) {
                i++;
            }
            tokenStart = i;
            if (i < tape.length && isSmallLetter(tape.bytes[i])) {
                while (i < tape.length && isSmallLetter(tape.bytes[i])) {
                    i++;
                }
            } else if (i < tape.length && isDigit(tape.bytes[i])) {
                while (i < tape.length && isDigit(tape.bytes[i])) {
                    i++;
                }
            } else if (i < tape.length) {
                i++;
            }
            tokenEnd = i;
        }

        private int takeToken() {
            if (lineWord == NONE) {
                return takeLineWord();
            }
            if (parts >= partsOf(lineWord)) {
                return takeLineEnd();
            }
            return lineWord == ONE_LINE ? takeYesOrNo() : takeNumber();
        }

        private int takeLineWord() {
            int word = NONE;
            for (int w = 0; w < LINE_WORDS && word == NONE; w++) {
                if (tokenIs(lineWordText(w))) {
                    word = w;
                }
            }
            if (word == NONE) {
                return SYNTAX;
            }
            if (word != THEME_LINE && ((toldWords >> word) & 1) != 0) {
                return TWICE;
            }
            toldWords |= 1 << word;
            lineWord = word;
            parts = 0;
            return FAULTLESS;
        }

        private int takeLineEnd() {
            if (!tokenIs(";")) {
                return SYNTAX;
            }
            lines++;
            lineWord = NONE;
            return FAULTLESS;
        }

        private int takeYesOrNo() {
            boolean yes = tokenIs("yes");
            if (!yes && !tokenIs("no")) {
                return SYNTAX;
            }
            draft.told[RULE_ONE] = yes ? 1 : 0;
            parts++;
            return FAULTLESS;
        }

        private int takeNumber() {
            int value = tokenNumber();
            if (value == NONE) {
                return SYNTAX;
            }
            if (value > mostOf(lineWord, parts)) {
                return OUT_OF_BOUNDS;
            }
            if (lineWord == THEME_LINE && parts == 0) {
                if (((toldThemes >> value) & 1) != 0) {
                    return TWICE;
                }
                toldThemes |= 1 << value;
                theme = value;
            } else {
                draft.told[placeOf(lineWord, parts)] = value;
            }
            parts++;
            return FAULTLESS;
        }

        private int placeOf(int word, int part) {
            switch (word) {
                case VOTES_LINE:
                    return part == 0 ? RULE_VOTES : RULE_SHARE;
                case DOWN_LINE:
                    return RULE_DOWN;
                case THEME_LINE:
                    return RULE_THEME + theme;
                default:
                    return word;
            }
        }

        private static int partsOf(int word) {
            return word == VOTES_LINE || word == THEME_LINE ? 2 : 1;
        }

        private static int mostOf(int word, int part) {
            switch (word) {
                case RULE_SOURCES:
                    return LAST_SOURCE + 1;
                case VOTES_LINE:
                    return part == 0 ? 99 : 100;
                case DOWN_LINE:
                    return 100;
                case THEME_LINE:
                    return part == 0 ? LAST_THEME : 99;
                default:
                    return 999;
            }
        }

        /** The first four stand in the order of their places in the RuleBook. */
        private static String lineWordText(int word) {
            switch (word) {
                case RULE_DEAD:
                    return "dead";
                case RULE_LIVED:
                    return "lived";
                case RULE_SOURCES:
                    return "sources";
                case RULE_SPAN:
                    return "span";
                case ONE_LINE:
                    return "one";
                case VOTES_LINE:
                    return "votes";
                case DOWN_LINE:
                    return "down";
                default:
                    return "theme";
            }
        }

        private boolean tokenIs(String text) {
            if (tokenEnd - tokenStart != text.length()) {
                return false;
            }
            for (int i = 0; i < text.length(); i++) {
                if (tape.bytes[tokenStart + i] != text.charAt(i)) {
                    return false;
                }
            }
            return true;
        }

        /** The TOKEN's N; NONE if it is none, or has too many digits. */
        private int tokenNumber() {
            if (tokenEnd - tokenStart > MOST_DIGITS || !isDigit(tape.bytes[tokenStart])) {
                return NONE;
            }
            int value = 0;
            for (int i = tokenStart; i < tokenEnd; i++) {
                value = value * 10 + (tape.bytes[i] - '0');
            }
            return value;
        }
    }

    /** ASKINGS; line i of the PLAQUE of asking a stands at a * MOST_LINES + i. */
    private static final class Askings {
        final int[] ofPerson;
        final int[] ofSite;
        final int[] year;
        final int[] state;
        final int[] yes;
        final int[] no;
        final int[] spokeAgainst;
        final int[] lines;
        final int[] lineWords;
        final int[] lineWidths;
        int size;

        Askings() {
            ofPerson = new int[MOST_ASKINGS];
            ofSite = new int[MOST_ASKINGS];
            year = new int[MOST_ASKINGS];
            state = new int[MOST_ASKINGS];
            yes = new int[MOST_ASKINGS];
            no = new int[MOST_ASKINGS];
            spokeAgainst = new int[MOST_ASKINGS];
            lines = new int[MOST_ASKINGS];
            lineWords = new int[MOST_ASKINGS * MOST_LINES];
            lineWidths = new int[MOST_ASKINGS * MOST_LINES];
        }

        int add(int p, int s, int inYear) {
            int a = size;
            ofPerson[a] = p;
            ofSite[a] = s;
            year[a] = inYear;
            state[a] = OPEN;
            spokeAgainst[a] = NONE;
            lines[a] = NONE;
            size++;
            return a;
        }

        int latestYear() {
            return size > 0 ? year[size - 1] : FIRST_YEAR;
        }

        int hanging() {
            int plaques = 0;
            for (int a = 0; a < size; a++) {
                if (state[a] == HANGS) {
                    plaques++;
                }
            }
            return plaques;
        }

        boolean hasLine(int a, int i) {
            return i >= 0 && i < lines[a];
        }

        void keepLines(int a, Fitting fitted) {
            lines[a] = fitted.lines;
            for (int i = 0; i < fitted.lines; i++) {
                lineWords[a * MOST_LINES + i] = fitted.lineWords[i];
                lineWidths[a * MOST_LINES + i] = fitted.lineWidths[i];
            }
        }
    }

    /** The WORDS of a PLAQUE: of each only how wide it is, since nothing asks for its letters later. */
    private static final class Words {
        final int[] widths;
        int size;

        Words() {
            widths = new int[MOST_WORDS];
        }

        /** False if the bytes aren't WORDS. */
        boolean split(Tape tape) {
            size = 0;
            int bytes = 0;
            for (int i = 0; i < tape.length; i++) {
                int sign = tape.bytes[i];
                if (isBlank(sign)) {
                    bytes = 0;
                    continue;
                }
                if (bytes == 0 && size >= MOST_WORDS || bytes >= MOST_WORD_BYTES || sign < 33 || sign > 126) {
                    return false;
                }
                if (bytes == 0) {
                    widths[size] = 0;
                    size++;
                }
                widths[size - 1] += widthOf(sign);
                bytes++;
            }
            return size > 0;
        }

        private static int widthOf(int sign) {
            switch (sign) {
                case 'i':
                case 'l':
                case 'j':
                case '.':
                case ',':
                case '\'':
                case '!':
                    return 2;
                case 'm':
                case 'w':
                case 'M':
                case 'W':
                    return 6;
                default:
                    break;
            }
            if (isSmallLetter(sign) || isDigit(sign)) {
                return 4;
            }
            return sign >= 'A' && sign <= 'Z' ? 5 : 3;
        }
    }

    /** WORDS FITTED in lines, from the last WORD back to the first. */
    private static final class Fitting {
        private static final int BLANK_WIDTH = 2;
        private static final int ROW = MOST_WORDS + 1;

        int lines;
        final int[] lineWords;
        final int[] lineWidths;
        /** At left * ROW + first: the least sum for the WORDS from first on in at most left lines, or NONE. */
        private final int[] sum;
        /** There too: how many WORDS the first of these lines has then. */
        private final int[] taken;

        Fitting() {
            lineWords = new int[MOST_LINES];
            lineWidths = new int[MOST_LINES];
            sum = new int[(MOST_LINES + 1) * ROW];
            taken = new int[(MOST_LINES + 1) * ROW];
        }

        boolean fits(Words words, int width, int mostLines) {
            for (int left = 1; left <= mostLines; left++) {
                for (int first = words.size - 1; first >= 0; first--) {
                    fitFrom(words, width, left, first);
                }
            }
            if (sum[mostLines * ROW] == NONE) {
                return false;
            }
            keepRow(words, mostLines);
            return true;
        }

        /** Of equal sums the one with the fewest WORDS ahead stays: so the row of counts is the least. */
        private void fitFrom(Words words, int width, int left, int first) {
            int best = NONE;
            int bestTaken = 0;
            int used = -BLANK_WIDTH;
            for (int next = first + 1; next <= words.size; next++) {
                used += BLANK_WIDTH + words.widths[next - 1];
                if (used > width) {
                    break;
                }
                int total = sumBehind(words.size, left, next);
                if (total != NONE && next < words.size) {
                    total += (width - used) * (width - used);
                }
                if (total != NONE && (best == NONE || total < best)) {
                    best = total;
                    bestTaken = next - first;
                }
            }
            sum[left * ROW + first] = best;
            taken[left * ROW + first] = bestTaken;
        }

        private int sumBehind(int size, int left, int next) {
            if (next == size) {
                return 0;
            }
            return left > 1 ? sum[(left - 1) * ROW + next] : NONE;
        }

        private void keepRow(Words words, int mostLines) {
            lines = 0;
            int first = 0;
            for (int left = mostLines; left >= 1 && first < words.size; left--) {
                int next = first + taken[left * ROW + first];
                int used = -BLANK_WIDTH;
                for (int w = first; w < next; w++) {
                    used += BLANK_WIDTH + words.widths[w];
                }
                lineWords[lines] = next - first;
                lineWidths[lines] = used;
                lines++;
                first = next;
            }
        }
    }
}
