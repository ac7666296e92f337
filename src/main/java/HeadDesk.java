/** Heads of requests and of things, typed on a tape and read from it character by character. */
public final class HeadDesk {
    public static final int NONE = -1;

    private static final int REQUEST = 0;
    private static final int THING = 1;
    private static final int MOST_BYTES = 255;

    private final Reader reader;
    private final Tape tape;
    private Head good;
    private int goodTexts;
    private int latestFault;

    public HeadDesk() {
        reader = new Reader();
        tape = reader.tape;
        good = new Head();
        goodTexts = 0;
        latestFault = NONE;
    }

    public boolean type(long word, int n) {
        return tape.append(word, n);
    }

    public int read(int kind) throws IllegalArgumentException {
        if (kind != REQUEST && kind != THING) {
            throw new IllegalArgumentException("no such kind");
        }
        boolean isText = reader.readText(kind);
        tape.empty();
        latestFault = reader.stuckAt();
        if (!isText) {
            throw new IllegalArgumentException("no such text");
        }
        good = reader.trade(good);
        goodTexts++;
        return goodTexts;
    }

    public int fault() {
        return latestFault;
    }

    public int told(int what) {
        return goodTexts == 0 ? NONE : good.get(what);
    }

    public boolean matches(int version) {
        return goodTexts > 0 && good.coversVersion(version);
    }

    public int bytes(int length, int what) {
        if (goodTexts == 0 || length < 0 || length > MOST_BYTES) {
            return NONE;
        }
        int first = good.firstByte(length);
        int last = good.lastByte(length);
        int many = Math.max(0, last - first + 1);
        switch (what) {
            case 0:
                return many == 0 ? NONE : first;
            case 1:
                return many == 0 ? NONE : last;
            case 2:
                return many;
            default:
                return NONE;
        }
    }

    /** The characters that were typed and not yet read. */
    private static final class Tape {
        static final int MOST = 300;
        static final int END = -1;
        static final char LINE_END = 10;
        private static final int MOST_AT_ONCE = 8;

        private final char[] marks = new char[MOST];
        private int length = 0;

        boolean append(long word, int n) {
            if (n < 1 || n > MOST_AT_ONCE || n > MOST - length) {
                return false;
            }
            // All are looked at before the first is kept: a refused word must change nothing.
            for (int i = 0; i < n; i++) {
                if (!mayStand(byteOf(word, i))) {
                    return false;
                }
            }
            for (int i = n - 1; i >= 0; i--) {
                marks[length] = (char) byteOf(word, i);
                length++;
            }
            return true;
        }

        void empty() {
            length = 0;
        }

        int markAt(int place) {
            return place >= 0 && place < length ? marks[place] : END;
        }

        private static int byteOf(long word, int fromLowest) {
            return (int) (word >>> (8 * fromLowest)) & 255;
        }

        private static boolean mayStand(int mark) {
            return mark == LINE_END || mark >= 32 && mark <= 126;
        }
    }

    /** What one TEXT tells; its numbers stand in the order in which told asks for them. */
    private static final class Head {
        static final int WORD = 0;
        static final int PATH = 1;
        static final int VARIANT = 2;
        static final int RANGE = 3;
        static final int RANGE_FROM = 4;
        static final int RANGE_TO = 5;
        static final int ANY_VERSION = 6;
        static final int VERSIONS = 7;
        static final int LENGTH = 8;
        static final int KEYS = 9;
        static final int NO_CACHE = 10;
        static final int ONLY_IF_CACHED = 11;
        static final int MAX_AGE = 12;
        static final int MAX_STALE = 13;
        static final int MIN_FRESH = 14;
        static final int NO_STORE = 15;
        static final int STALE_IF_ERROR = 16;
        static final int STALE_WHILE_REVALIDATE = 17;

        static final int GET = 1;
        static final int HEAD = 2;
        static final int PUT = 3;

        static final int FROM_TO = 1;
        static final int FROM_ON = 2;
        static final int LAST_ONES = 3;

        static final int WITHOUT_NUMBER = -2;
        static final int MOST_VERSIONS = 8;
        private static final int[] AT_FIRST = {
            0, 0, 0, 0, NONE, NONE, 0, 0, 0, 0, 0, 0, NONE, NONE, NONE, 0, NONE, NONE
        };

        private final int[] values = new int[AT_FIRST.length];
        private final int[] versions = new int[MOST_VERSIONS];

        void clear() {
            System.arraycopy(AT_FIRST, 0, values, 0, AT_FIRST.length);
        }

        int get(int what) {
            return what >= 0 && what < values.length ? values[what] : NONE;
        }

        void set(int what, int value) {
            if (what >= 0 && what < values.length) {
                values[what] = value;
            }
        }

        void setRange(int form, int from, int to) {
            values[RANGE] = form;
            values[RANGE_FROM] = from;
            values[RANGE_TO] = to;
        }

        void addKey(int letter) {
            values[KEYS] |= 1 << (letter - 'a');
        }

        void addVersion(int version) {
            int count = values[VERSIONS];
            if (!hasVersion(version) && count >= 0 && count < versions.length) {
                versions[count] = version;
                values[VERSIONS] = count + 1;
            }
        }

        boolean coversVersion(int version) {
            return values[ANY_VERSION] == 1 || hasVersion(version);
        }

        private boolean hasVersion(int version) {
            for (int i = 0; i < versions.length && i < values[VERSIONS]; i++) {
                if (versions[i] == version) {
                    return true;
                }
            }
            return false;
        }

        int firstByte(int length) {
            switch (values[RANGE]) {
                case FROM_TO:
                case FROM_ON:
                    return values[RANGE_FROM];
                case LAST_ONES:
                    return length - Math.min(values[RANGE_FROM], length);
                default:
                    return 0;
            }
        }

        int lastByte(int length) {
            return values[RANGE] == FROM_TO ? Math.min(values[RANGE_TO], length - 1) : length - 1;
        }
    }

    /**
     * Goes over the tape once. A method that answers false has marked where it can't go on;
     * skip alone answers false for something that need not be there.
     */
    private static final class Reader {
        private static final int MOST_LETTERS_OF_NAME = 20;
        private static final int MOST_LETTERS_OF_WORD = 30;
        private static final int MOST_DIGITS = 5;
        private static final int MOST_NUMBER = 99999;
        private static final int MOST_PATH = 31;
        private static final int MOST_VARIANT = 3;
        private static final int MOST_KEYS = 8;
        // A LINE with a NAME takes three characters at the least.
        private static final int MOST_NAMES = Tape.MOST / 3;

        // The reader makes the tape itself, so that no constructor hands out a part of its object.
        final Tape tape = new Tape();
        private final int[] nameStarts = new int[MOST_NAMES];
        private final int[] nameEnds = new int[MOST_NAMES];
        private Head draft = new Head();
        private int names = 0;
        private int kind = REQUEST;
        private int place = 0;
        private int stuck = NONE;
        private int number = 0;
        private int wordStart = 0;
        private int wordEnd = 0;

        int stuckAt() {
            return stuck;
        }

        /** Two heads change places, so that no reading makes a new one. */
        Head trade(Head spare) {
            Head done = draft;
            draft = spare;
            return done;
        }

        boolean readText(int kindOfText) {
            kind = kindOfText;
            names = 0;
            place = 0;
            stuck = NONE;
            draft.clear();
            if (!readFirstLine()) {
                return false;
            }
            for (int i = 0; i <= MOST_NAMES; i++) {
                if (skip(Tape.LINE_END)) {
                    return mark() == Tape.END || stop(place);
                }
                if (!readName() || !readValue() || !take(Tape.LINE_END)) {
                    return false;
                }
            }
            return stop(place);
        }

        private boolean readFirstLine() {
            return readVerb() && take(' ') && take('/') && readTarget() && take(Tape.LINE_END);
        }

        private boolean readVerb() {
            if (kind == THING) {
                draft.set(Head.WORD, Head.PUT);
                return takeAll("PUT");
            }
            if (mark() == 'H') {
                draft.set(Head.WORD, Head.HEAD);
                return takeAll("HEAD");
            }
            draft.set(Head.WORD, Head.GET);
            return takeAll("GET");
        }

        private boolean readTarget() {
            if (!takeNumber(MOST_PATH)) {
                return false;
            }
            draft.set(Head.PATH, number);
            if (kind == THING || !skip('/')) {
                return true;
            }
            if (!takeNumber(MOST_VARIANT)) {
                return false;
            }
            draft.set(Head.VARIANT, number);
            return true;
        }

        private boolean readName() {
            if (!takeLetters(MOST_LETTERS_OF_NAME) || !take(':')) {
                return false;
            }
            if (names >= MOST_NAMES || wasThere()) {
                return stop(wordStart);
            }
            nameStarts[names] = wordStart;
            nameEnds[names] = wordEnd;
            names++;
            return true;
        }

        private boolean wasThere() {
            for (int i = 0; i < names && i < MOST_NAMES; i++) {
                if (isWordFrom(nameStarts[i], nameEnds[i])) {
                    return true;
                }
            }
            return false;
        }

        private boolean readValue() {
            skip(' ');
            if (isWord("cache-control")) {
                return readList();
            }
            if (kind == REQUEST && isWord("range")) {
                return readRange();
            }
            if (kind == REQUEST && isWord("if-none-match")) {
                return readVersions();
            }
            if (kind == THING && isWord("length")) {
                return readLength();
            }
            if (kind == THING && isWord("keys")) {
                return readKeys();
            }
            return readAnything();
        }

        private boolean readAnything() {
            for (int i = 0; i < Tape.MOST; i++) {
                if (mark() == Tape.END || mark() == Tape.LINE_END) {
                    return true;
                }
                place++;
            }
            return true;
        }

        private boolean readRange() {
            if (!takeAll("bytes=")) {
                return false;
            }
            boolean lastOnes = skip('-');
            if (!takeNumber(MOST_NUMBER)) {
                return false;
            }
            int from = number;
            if (lastOnes) {
                draft.setRange(Head.LAST_ONES, from, NONE);
                return true;
            }
            if (!take('-')) {
                return false;
            }
            if (!isDigit(mark())) {
                draft.setRange(Head.FROM_ON, from, NONE);
                return true;
            }
            if (!takeNumber(MOST_NUMBER)) {
                return false;
            }
            if (from <= number) {
                draft.setRange(Head.FROM_TO, from, number);
            }
            return true;
        }

        private boolean readVersions() {
            if (skip('*')) {
                draft.set(Head.ANY_VERSION, 1);
                return true;
            }
            for (int i = 1; i <= Head.MOST_VERSIONS; i++) {
                if (!take('"') || !takeNumber(MOST_NUMBER) || !take('"')) {
                    return false;
                }
                draft.addVersion(number);
                // Behind the last one that may be there a comma is what can't stand.
                if (i == Head.MOST_VERSIONS || !skip(',')) {
                    return true;
                }
                if (!take(' ')) {
                    return false;
                }
            }
            return true;
        }

        private boolean readLength() {
            if (!takeNumber(MOST_BYTES)) {
                return false;
            }
            draft.set(Head.LENGTH, number);
            return true;
        }

        private boolean readKeys() {
            for (int i = 1; i <= MOST_KEYS; i++) {
                int letter = mark();
                if (letter < 'a' || letter > 'h') {
                    return stop(place);
                }
                draft.addKey(letter);
                place++;
                if (i == MOST_KEYS || !skip(' ')) {
                    return true;
                }
            }
            return true;
        }

        private boolean readList() {
            for (int i = 0; i < Tape.MOST; i++) {
                if (!takeLetters(MOST_LETTERS_OF_WORD)) {
                    return false;
                }
                if (!skip('=')) {
                    countBare();
                } else if (takeNumber(MOST_NUMBER)) {
                    countWithNumber();
                } else {
                    return false;
                }
                if (!skip(',')) {
                    return true;
                }
                if (!take(' ')) {
                    return false;
                }
            }
            return stop(place);
        }

        private void countBare() {
            if (isWord("no-cache")) {
                draft.set(Head.NO_CACHE, 1);
            } else if (kind == THING) {
                if (isWord("no-store")) {
                    draft.set(Head.NO_STORE, 1);
                }
            } else if (isWord("only-if-cached")) {
                draft.set(Head.ONLY_IF_CACHED, 1);
            } else if (isWord("max-stale")) {
                draft.set(Head.MAX_STALE, Head.WITHOUT_NUMBER);
            }
        }

        private void countWithNumber() {
            if (isWord("max-age")) {
                draft.set(Head.MAX_AGE, number);
            } else if (kind == THING) {
                if (isWord("stale-if-error")) {
                    draft.set(Head.STALE_IF_ERROR, number);
                } else if (isWord("stale-while-revalidate")) {
                    draft.set(Head.STALE_WHILE_REVALIDATE, number);
                }
            } else if (isWord("max-stale")) {
                draft.set(Head.MAX_STALE, number);
            } else if (isWord("min-fresh")) {
                draft.set(Head.MIN_FRESH, number);
            }
        }

        private int mark() {
            return tape.markAt(place);
        }

        private boolean stop(int where) {
            stuck = where;
            return false;
        }

        private boolean skip(char wanted) {
            if (mark() != wanted) {
                return false;
            }
            place++;
            return true;
        }

        private boolean take(char wanted) {
            if (mark() != wanted) {
                return stop(place);
            }
            place++;
            return true;
        }

        private boolean takeAll(String wanted) {
            for (int i = 0; i < wanted.length(); i++) {
                if (mark() != wanted.charAt(i)) {
                    return stop(place);
                }
                place++;
            }
            return true;
        }

        /** A sixth digit is left standing: nothing that comes behind a NUMBER takes a digit. */
        private boolean takeNumber(int most) {
            int start = place;
            number = 0;
            for (int i = 0; i < MOST_DIGITS && isDigit(mark()); i++) {
                number = number * 10 + (mark() - '0');
                place++;
            }
            if (place == start) {
                return stop(place);
            }
            return number <= most || stop(start);
        }

        /** One letter more than may be there is taken, for that is enough to know. */
        private boolean takeLetters(int most) {
            wordStart = place;
            for (int i = 0; i <= most && isLetter(mark()); i++) {
                place++;
            }
            wordEnd = place;
            if (wordEnd == wordStart) {
                return stop(place);
            }
            return wordEnd - wordStart <= most || stop(wordStart);
        }

        private boolean isWord(String wanted) {
            if (wordEnd - wordStart != wanted.length()) {
                return false;
            }
            for (int i = 0; i < wanted.length(); i++) {
                if (tape.markAt(wordStart + i) != wanted.charAt(i)) {
                    return false;
                }
            }
            return true;
        }

        private boolean isWordFrom(int start, int end) {
            if (wordEnd - wordStart != end - start) {
                return false;
            }
            for (int i = 0; i < end - start; i++) {
                if (tape.markAt(wordStart + i) != tape.markAt(start + i)) {
                    return false;
                }
            }
            return true;
        }

        private static boolean isDigit(int mark) {
            return mark >= '0' && mark <= '9';
        }

        private static boolean isLetter(int mark) {
            return mark >= 'a' && mark <= 'z' || mark == '-';
        }
    }
}
