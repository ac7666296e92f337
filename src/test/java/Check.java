/** What the tests share: typing texts, reading them, and counting the answers that are not due. */
final class Check {
    static final int REQUEST = 0;
    static final int THING = 1;
    static final int THROWN = Integer.MIN_VALUE;

    private static int wrong = 0;

    private Check() {
    }

    static void due(String call, long got, long want) {
        if (got != want) {
            wrong++;
            System.out.println(call + " answered " + got + ", due is " + want);
        }
    }

    static void due(String call, boolean got, boolean want) {
        due(call, got ? 1 : 0, want ? 1 : 0);
    }

    /** Types a text in pieces of up to eight characters; whether all of them were taken. */
    static boolean typed(HeadDesk desk, String text) {
        for (int from = 0; from < text.length(); from += 8) {
            int to = Math.min(text.length(), from + 8);
            long word = 0;
            for (int i = from; i < to; i++) {
                word = word << 8 | text.charAt(i);
            }
            if (!desk.type(word, to - from)) {
                return false;
            }
        }
        return true;
    }

    static int read(HeadDesk desk, int kind) {
        try {
            return desk.read(kind);
        } catch (IllegalArgumentException e) {
            // A class below it, such as NumberFormatException, is not what the document names.
            due("the class of what read throws", e.getClass() == IllegalArgumentException.class, true);
            return THROWN;
        }
    }

    /** A new object that has read this good text. */
    static HeadDesk having(int kind, String text) {
        HeadDesk desk = new HeadDesk();
        due("typing " + shown(text), typed(desk, text), true);
        due("reading " + shown(text), read(desk, kind), 1);
        return desk;
    }

    static void good(int kind, String text) {
        HeadDesk desk = having(kind, text);
        due("fault of " + shown(text), desk.fault(), HeadDesk.NONE);
    }

    static void bad(int kind, String text, int fault) {
        HeadDesk desk = new HeadDesk();
        due("typing " + shown(text), typed(desk, text), true);
        due("reading " + shown(text), read(desk, kind), THROWN);
        due("fault of " + shown(text), desk.fault(), fault);
    }

    static String shown(String text) {
        return "[" + text.replace("\n", "\\n") + "]";
    }

    static void end() {
        System.out.println(wrong == 0 ? "all answers are as due" : wrong + " answers are not as due");
        if (wrong != 0) {
            System.exit(1);
        }
    }
}
