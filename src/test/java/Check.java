/** What the tests share: typing texts, reading them, and counting the answers that are not due. */
final class Check {
    static final int REQUEST = 0;
    static final int THING = 1;
    static final int THROWN = Integer.MIN_VALUE;

    private static int wrong = 0;
    private static String sentence = "";

    private Check() {
    }

    /** The document's sentence that the answers from here on are due by. */
    static void sentence(String words) {
        sentence = "'" + words + "': ";
    }

    static void due(String call, long got, long want) {
        if (got != want) {
            wrong++;
            System.out.println(sentence + call + " answered " + got + ", due is " + want);
        }
    }

    static void due(String call, boolean got, boolean want) {
        due(call, got ? 1 : 0, want ? 1 : 0);
    }

    /** Types a text in pieces of up to eight characters; whether all of them were taken. */
    static boolean typed(HeadDesk desk, String text) {
        for (int from = 0; from < text.length(); from += 8) {
            int to = Math.min(text.length(), from + 8);
            long word = 0;
            for (int i = from; i < to; i++) {
                word = word << 8 | text.charAt(i);
            }
            if (!desk.type(word, to - from)) {
                return false;
            }
        }
        return true;
    }

    static int read(HeadDesk desk, int kind) {
        try {
            return desk.read(kind);
        } catch (IllegalArgumentException e) {
            // A class below it, such as NumberFormatException, is not what the document names.
            due("the class of what read throws", e.getClass() == IllegalArgumentException.class, true);
            return THROWN;
        }
    }

    /** A new object that has read this good text. */
    static HeadDesk having(int kind, String text) {
        HeadDesk desk = new HeadDesk();
        due("typing " + shown(text), typed(desk, text), true);
        due("reading " + shown(text), read(desk, kind), 1);
        return desk;
    }

    static void good(int kind, String text) {
        HeadDesk desk = having(kind, text);
        due("fault of " + shown(text), desk.fault(), HeadDesk.NONE);
    }

    static void bad(int kind, String text, int fault) {
        HeadDesk desk = new HeadDesk();
        due("typing " + shown(text), typed(desk, text), true);
        due("reading " + shown(text), read(desk, kind), THROWN);
        due("fault of " + shown(text), desk.fault(), fault);
    }

    /** Good, and told(what) is as due. */
    static void tells(int kind, String text, int what, int want) {
        HeadDesk desk = having(kind, text);
        due("fault of " + shown(text), desk.fault(), HeadDesk.NONE);
        due("told(" + what + ") of " + shown(text), desk.told(what), want);
    }

    static String row(String part, String between, int many) {
        StringBuilder row = new StringBuilder();
        for (int i = 0; i < many; i++) {
            row.append(i == 0 ? "" : between).append(part);
        }
        return row.toString();
    }

    /** The word with one letter changed, at each place in turn. */
    static String[] nearly(String word) {
        String[] all = new String[word.length()];
        for (int at = 0; at < all.length; at++) {
            char letter = word.charAt(at) == 'x' ? 'y' : 'x';
            all[at] = word.substring(0, at) + letter + word.substring(at + 1);
        }
        return all;
    }

    /** A TEXT of the first LINE and each of these others is good, and tells what the first LINE alone tells. */
    static void countsNothing(int kind, String start, String... lines) {
        String plain = answers(having(kind, start + "\n"));
        for (String line : lines) {
            same(shown(line), answers(having(kind, start + line + "\n\n")), plain);
        }
    }

    /** What the latest good TEXT answers, in one line: 65 calls. */
    static String answers(HeadDesk desk) {
        StringBuilder all = new StringBuilder();
        for (int what = -1; what <= 18; what++) {
            all.append(desk.told(what)).append(' ');
        }
        for (int version = -1; version <= 10; version++) {
            all.append(desk.matches(version) ? 'y' : 'n');
        }
        int[] lengths = {-1, 0, 1, 2, 9, 10, 11, 100, 254, 255, 256};
        for (int length : lengths) {
            for (int what = 0; what <= 2; what++) {
                all.append(' ').append(desk.bytes(length, what));
            }
        }
        return all.toString();
    }

    static void same(String call, String got, String want) {
        if (!got.equals(want)) {
            wrong++;
            System.out.println(sentence + call + " answered " + got + ", due is " + want);
        }
    }

    static String shown(String text) {
        return "[" + text.replace("\n", "\\n") + "]";
    }

    static void end() {
        System.out.println(wrong == 0 ? "all answers are as due" : wrong + " answers are not as due");
        if (wrong != 0) {
            System.exit(1);
        }
    }
}
