/** The edges of the tape, and of promise 2 (type), sentence by sentence. */
public final class TapeEdgesTest {
    private static final int R = Check.REQUEST;

    public static void main(String[] args) {
        atMostThreeHundred();
        roomAgain();
        whichCharacters();
        howManyBytes();
        theLowestBytes();
        theHighestFirst();
        falseForAnotherN();
        falseForAnotherByte();
        falseForTooMany();
        Check.end();
    }

    /** A good TEXT of just so many characters. */
    private static String textOf(int length) {
        String start = "GET /7\nx:";
        return start + "y".repeat(length - start.length() - 2) + "\n\n";
    }

    private static long word(String text) {
        long word = 0;
        for (int i = 0; i < text.length(); i++) {
            word = word << 8 | text.charAt(i);
        }
        return word;
    }

    private static void atMostThreeHundred() {
        Check.sentence("THE TAPE has at most 300 characters");
        for (int length = 298; length <= 300; length++) {
            HeadDesk desk = new HeadDesk();
            Check.due(length + " characters", Check.typed(desk, textOf(length)), true);
            Check.due("read of " + length, Check.read(desk, R), 1);
        }
        HeadDesk desk = new HeadDesk();
        for (int i = 1; i <= 300; i++) {
            Check.due("character " + i, desk.type('G', 1), true);
        }
        Check.due("character 301", desk.type('G', 1), false);
        Check.due("character 301, again", desk.type('G', 1), false);
    }

    private static void roomAgain() {
        Check.sentence("The tape (which is empty then)");
        HeadDesk desk = new HeadDesk();
        Check.due("300", Check.typed(desk, textOf(300)), true);
        Check.due("no room", desk.type('y', 1), false);
        Check.read(desk, 2);
        Check.due("another kind makes no room", desk.type('y', 1), false);
        Check.due("a good one", Check.read(desk, R), 1);
        Check.due("300 behind a good one", Check.typed(desk, "y".repeat(300)), true);
        Check.due("no room", desk.type('y', 1), false);
        Check.due("none", Check.read(desk, R), Check.THROWN);
        Check.due("300 behind none", Check.typed(desk, textOf(300)), true);
        Check.due("a good one", Check.read(desk, R), 2);
    }

    private static void whichCharacters() {
        Check.sentence("characters (10, which ends a LINE, and 32 .. 126)");
        int[] taken = {10, 32, 33, 47, 58, 65, 97, 125, 126};
        for (int mark : taken) {
            Check.due("character " + mark, new HeadDesk().type(mark, 1), true);
        }
        int[] refused = {0, 1, 8, 9, 11, 12, 13, 30, 31, 127, 128, 129, 138, 160, 254, 255};
        for (int mark : refused) {
            Check.due("character " + mark, new HeadDesk().type(mark, 1), false);
        }
        Check.bad(R, "GET /1 ", 6);
        Check.bad(R, "GET /1~", 6);
        Check.bad(R, "GET /1\n~", 7);
    }

    private static void howManyBytes() {
        Check.sentence("The n (1 .. 8) lowest bytes of word go to the tape: true");
        for (int n = 1; n <= 8; n++) {
            HeadDesk desk = new HeadDesk();
            Check.due("n " + n, desk.type(word("GET /12/"), n), true);
            Check.read(desk, R);
            // Only all eight of them begin as a TEXT does.
            Check.due("the lowest " + n, desk.fault(), n == 8 ? 8 : 0);
            Check.due("n " + n, desk.type(word("GET /12/".substring(0, n)), n), true);
            Check.read(desk, R);
            Check.due("just " + n + " went to the tape", desk.fault(), n);
        }
    }

    private static void theLowestBytes() {
        Check.sentence("The n lowest bytes of word");
        String text = "GET /12\n\n";
        long[] above = {0, -1, 0x8080808080808080L, 0x7F7F7F7F7F7F7F7FL, 0x0101010101010101L};
        for (long other : above) {
            for (int n = 1; n <= 7; n++) {
                HeadDesk desk = new HeadDesk();
                long low = (1L << 8 * n) - 1;
                long word = other & ~low | word(text.substring(0, n));
                Check.due("n " + n + " of " + word, desk.type(word, n), true);
                Check.due("the rest", Check.typed(desk, text.substring(n)), true);
                Check.due("n " + n + " of " + word, Check.read(desk, R), 1);
            }
        }
    }

    private static void theHighestFirst() {
        Check.sentence("the highest first");
        String text = "HEAD /12/3\nrange: bytes=34-567\n\n";
        for (int n = 1; n <= 8; n++) {
            HeadDesk desk = new HeadDesk();
            for (int from = 0; from < text.length(); from += n) {
                String piece = text.substring(from, Math.min(text.length(), from + n));
                Check.due("piece of " + n, desk.type(word(piece), piece.length()), true);
            }
            Check.due("read, by pieces of " + n, Check.read(desk, R), 1);
            Check.due("told(1), by pieces of " + n, desk.told(1), 12);
            Check.due("told(4), by pieces of " + n, desk.told(4), 34);
            Check.due("told(5), by pieces of " + n, desk.told(5), 567);
        }
    }

    private static void falseForAnotherN() {
        Check.sentence("false, changing nothing, for another n");
        int[] others = {0, 9, -1, -8, 10, 16, 64, 257, 264, 65537, -255, -256,
            Integer.MIN_VALUE, Integer.MIN_VALUE + 1, Integer.MAX_VALUE, Integer.MAX_VALUE - 7};
        for (int n : others) {
            HeadDesk desk = Check.having(R, "GET /3/1\nif-none-match: \"4\"\n\n");
            Check.typed(desk, "GOT");
            Check.read(desk, R);
            String before = Check.answers(desk);
            Check.due("n " + n, desk.type(word("11111111"), n), false);
            Check.due("half of a TEXT", Check.typed(desk, "GET /1"), true);
            Check.due("n " + n, desk.type(word("11111111"), n), false);
            Check.same("answers behind n " + n, Check.answers(desk), before);
            Check.due("fault behind n " + n, desk.fault(), 1);
            Check.due("the other half", Check.typed(desk, "2\n\n"), true);
            Check.due("read behind n " + n, Check.read(desk, R), 2);
            Check.due("told(1) behind n " + n, desk.told(1), 12);
        }
    }

    private static void falseForAnotherByte() {
        Check.sentence("false, changing nothing, for a byte that is not 10 or 32 .. 126");
        int[] others = {0, 9, 11, 31, 127, 128, 138, 255};
        for (int other : others) {
            for (int n = 1; n <= 8; n++) {
                HeadDesk desk = new HeadDesk();
                Check.typed(desk, "GET /1");
                for (int at = 0; at < n; at++) {
                    long word = word("2".repeat(n)) & ~(255L << 8 * at) | (long) other << 8 * at;
                    Check.due(other + " as byte " + at + " of " + n, desk.type(word, n), false);
                }
                Check.typed(desk, "0\n\n");
                Check.due("read behind " + other, Check.read(desk, R), 1);
                Check.due("told(1) behind " + other, desk.told(1), 10);
            }
        }
    }

    private static void falseForTooMany() {
        Check.sentence("false, changing nothing, if it would have more than 300");
        String text = textOf(300);
        for (int n = 1; n <= 8; n++) {
            HeadDesk fits = new HeadDesk();
            Check.typed(fits, text.substring(0, 300 - n));
            Check.due(n + " more, to 300", fits.type(word(text.substring(300 - n)), n), true);
            Check.due("read", Check.read(fits, R), 1);

            for (int more = n; more <= 8; more++) {
                HeadDesk desk = new HeadDesk();
                Check.typed(desk, text.substring(0, 301 - n));
                Check.due(more + " more, beyond 300", desk.type(word("!".repeat(more)), more), false);
                Check.due("the rest", Check.typed(desk, text.substring(301 - n)), true);
                Check.due("read behind " + more + " too many", Check.read(desk, R), 1);
            }
        }
    }
}
