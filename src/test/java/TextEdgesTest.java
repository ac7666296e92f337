/** The edges of what every TEXT is made of (the terms' first paragraph), sentence by sentence. */
public final class TextEdgesTest {
    private static final int R = Check.REQUEST;
    private static final int T = Check.THING;
    private static final String[] STARTS = {"GET /1\n", "PUT /1\n"};
    /** Just outside the letters, the digits and the -, and some further off. */
    private static final String NO_LETTERS = "`{,./09@AZ[ !~\"=;_";

    public static void main(String[] args) {
        numbersHaveOneToFiveDigits();
        numbersHaveDigitsAlone();
        paths();
        variants();
        firstLine();
        namesHaveOneToTwentyLetters();
        namesHaveSmallLettersOrBars();
        oneBlankOrNone();
        eachNameOnce();
        asManyNamesAsThereIsRoomFor();
        anEmptyLineEndsIt();
        wordsOfListsHaveOneToThirtyLetters();
        wordsOfListsHaveSmallLettersOrBars();
        wordsArePartedByCommaAndBlank();
        perhapsWithANumber();
        asManyWordsAsThereIsRoomFor();
        Check.end();
    }

    private static void numbersHaveOneToFiveDigits() {
        Check.sentence("NUMBERS are 1 to 5 digits");
        digits(R, "GET /", "\n\n");
        digits(R, "GET /", "/1\n\n");
        digits(R, "GET /1/", "\n\n");
        digits(T, "PUT /", "\n\n");
        digits(R, "GET /1\nrange: bytes=", "-\n\n");
        digits(R, "GET /1\nrange: bytes=0-", "\n\n");
        digits(R, "GET /1\nrange: bytes=-", "\n\n");
        digits(R, "GET /1\nif-none-match: \"", "\"\n\n");
        digits(R, "GET /1\nif-none-match: \"1\", \"", "\"\n\n");
        digits(T, "PUT /1\nlength: ", "\n\n");
        for (int kind = R; kind <= T; kind++) {
            String[] words = {"x", "max-age", "max-stale", "min-fresh", "no-cache", "stale-if-error"};
            for (String word : words) {
                digits(kind, STARTS[kind] + "cache-control: " + word + "=", "\n\n");
                digits(kind, STARTS[kind] + "cache-control: " + word + "=", ", a\n\n");
            }
        }
    }

    private static void digits(int kind, String before, String behind) {
        // Without B a range is another range that is good.
        boolean mayBeMissing = before.endsWith("0-");
        if (!mayBeMissing) {
            int at = before.length();
            // A - behind no digits could begin a range of another form.
            boolean goesOn = before.endsWith("bytes=") && behind.startsWith("-");
            Check.bad(kind, before + behind, goesOn ? at + 1 : at);
        }
        for (int many = 1; many <= 5; many++) {
            Check.good(kind, before + "0".repeat(many) + behind);
            Check.good(kind, before + "0".repeat(many - 1) + "1" + behind);
        }
        for (int many = 6; many <= 8; many++) {
            Check.bad(kind, before + "0".repeat(many) + behind, before.length() + 5);
            Check.bad(kind, before + "0".repeat(many - 1) + "1" + behind, before.length() + 5);
            Check.bad(kind, before + "00001" + "9".repeat(many - 5) + behind, before.length() + 5);
        }
    }

    private static void numbersHaveDigitsAlone() {
        Check.sentence("NUMBERS are digits");
        String others = ":;.+aA ";
        for (int i = 0; i < others.length(); i++) {
            char other = others.charAt(i);
            Check.bad(R, "GET /" + other, 5);
            Check.bad(R, "GET /1" + other, 6);
            Check.bad(R, "GET /1/" + other, 7);
            Check.bad(R, "GET /1\nrange: bytes=" + other, 20);
            Check.bad(R, "GET /1\nrange: bytes=1" + other, 21);
            Check.bad(R, "GET /1\nrange: bytes=1-" + other, 22);
            Check.bad(R, "GET /1\nrange: bytes=1-2" + other, 23);
            Check.bad(R, "GET /1\nif-none-match: \"" + other, 23);
            Check.bad(R, "GET /1\nif-none-match: \"1" + other, 24);
            Check.bad(T, "PUT /1\nlength:" + (other == ' ' ? " " : "") + other, other == ' ' ? 15 : 14);
            Check.bad(T, "PUT /1\ncache-control:a=" + other, 23);
        }
        Check.bad(R, "GET //", 5);
        for (int digit = 0; digit <= 9; digit++) {
            Check.tells(R, "GET /1\nrange: bytes=" + digit + "-\n\n", 4, digit);
        }
    }

    private static void paths() {
        Check.sentence("PATH 0 .. 31");
        for (int path = 0; path <= 31; path++) {
            Check.tells(R, "GET /" + path + "\n\n", 1, path);
            Check.tells(R, "HEAD /" + path + "/3\n\n", 1, path);
            Check.tells(T, "PUT /" + path + "\n\n", 1, path);
        }
        Check.tells(R, "GET /00031\n\n", 1, 31);
        String[] beyond = {"32", "33", "39", "40", "99", "100", "032", "00032", "256", "287", "65536", "99999"};
        for (String path : beyond) {
            Check.bad(R, "GET /" + path + "\n\n", 5);
            Check.bad(R, "HEAD /" + path + "/1\n\n", 6);
            Check.bad(T, "PUT /" + path + "\n\n", 5);
        }
    }

    private static void variants() {
        Check.sentence("VARIANT 0 .. 3, 0 if it is not there");
        for (int variant = 0; variant <= 3; variant++) {
            Check.tells(R, "GET /31/" + variant + "\n\n", 2, variant);
            Check.tells(R, "HEAD /31/0000" + variant + "\n\n", 2, variant);
        }
        Check.tells(R, "GET /31\n\n", 2, 0);
        Check.tells(R, "HEAD /0\n\n", 2, 0);
        Check.tells(T, "PUT /31\n\n", 2, 0);
        String[] beyond = {"4", "5", "9", "10", "31", "04", "00004", "256", "65536", "99999"};
        for (String variant : beyond) {
            Check.bad(R, "GET /1/" + variant + "\n\n", 7);
            Check.bad(R, "HEAD /31/" + variant + "\n\n", 9);
        }
        HeadDesk desk = Check.having(R, "GET /1/3\n\n");
        Check.typed(desk, "GET /1\n\n");
        Check.due("read", Check.read(desk, R), 2);
        Check.due("0, not that of an older TEXT", desk.told(2), 0);
    }

    private static void firstLine() {
        Check.sentence("A TEXT: a LINE with a word, a blank, a TARGET: / PATH, or / PATH / VARIANT");
        Check.bad(R, "\n", 0);
        Check.bad(R, "\nGET /1\n\n", 0);
        Check.bad(R, "GET\n\n", 3);
        Check.bad(R, "GET/1\n\n", 3);
        Check.good(R, "GET /1\n\n");
        Check.bad(R, "GET  /1\n\n", 4);
        Check.bad(R, "GET \n\n", 4);
        Check.bad(R, "GET /\n\n", 5);
        Check.bad(R, "GET //1\n\n", 5);
        Check.bad(R, "GET /1/\n\n", 7);
        Check.good(R, "GET /1/1\n\n");
        Check.bad(R, "GET /1//1\n\n", 7);
        Check.bad(R, "GET /1/1/\n\n", 8);
        Check.bad(R, "GET /1/1 \n\n", 8);
        Check.bad(R, "GET /1x: y\n\n", 6);
    }

    private static void namesHaveOneToTwentyLetters() {
        Check.sentence("a NAME: 1 to 20 small letters or -");
        for (int kind = R; kind <= T; kind++) {
            String start = STARTS[kind];
            Check.bad(kind, start + ":\n\n", 7);
            Check.bad(kind, start + ": y\n\n", 7);
            for (int many = 1; many <= 20; many++) {
                Check.good(kind, start + "n".repeat(many) + ":\n\n");
                Check.good(kind, start + "-".repeat(many) + ": y\n\n");
            }
            for (int many = 21; many <= 23; many++) {
                Check.bad(kind, start + "n".repeat(many) + ":\n\n", 7);
                Check.bad(kind, start + "a:\n" + "-".repeat(many) + ": y\n\n", 10);
            }
            Check.bad(kind, start + "n".repeat(290), 7);
        }
    }

    private static void namesHaveSmallLettersOrBars() {
        Check.sentence("a NAME: small letters or -");
        for (int kind = R; kind <= T; kind++) {
            Check.good(kind, STARTS[kind] + "a:\nb:\ny:\nz:\n-:\nabcdefghijklm:\nnopqrstuvwxyz:\n\n");
            for (int i = 0; i < NO_LETTERS.length(); i++) {
                char other = NO_LETTERS.charAt(i);
                Check.bad(kind, STARTS[kind] + other + ":\n\n", 7);
                Check.bad(kind, STARTS[kind] + "a" + other + ":\n\n", 8);
                Check.bad(kind, STARTS[kind] + "n".repeat(20) + other + ":\n\n", 27);
            }
            Check.bad(kind, STARTS[kind] + "a\n\n", 8);
        }
    }

    private static void oneBlankOrNone() {
        Check.sentence("behind the : one blank or none");
        String[] requests = {"range:bytes=1-2", "if-none-match:*", "if-none-match:\"1\"", "cache-control:a"};
        blanks(R, requests);
        String[] things = {"length:1", "keys:a", "cache-control:a"};
        blanks(T, things);
        for (int kind = R; kind <= T; kind++) {
            // Of another NAME a second blank is a character of its VALUE.
            Check.good(kind, STARTS[kind] + "x:\n\n");
            Check.good(kind, STARTS[kind] + "x: \n\n");
            Check.good(kind, STARTS[kind] + "x:  \n\n");
            Check.good(kind, STARTS[kind] + "x:   y\n\n");
            Check.bad(kind, STARTS[kind] + "x :y\n\n", 8);
        }
    }

    private static void blanks(int kind, String[] lines) {
        for (String line : lines) {
            int behind = STARTS[kind].length() + line.indexOf(':') + 1;
            Check.good(kind, STARTS[kind] + line + "\n\n");
            Check.good(kind, STARTS[kind] + line.replace(":", ": ") + "\n\n");
            Check.bad(kind, STARTS[kind] + line.replace(":", ":  ") + "\n\n", behind + 1);
            Check.bad(kind, STARTS[kind] + line.replace(":", " :") + "\n\n", behind - 1);
        }
    }

    private static void eachNameOnce() {
        Check.sentence("each NAME once");
        for (int kind = R; kind <= T; kind++) {
            String start = STARTS[kind];
            Check.good(kind, start + "a:\n\n");
            Check.bad(kind, start + "a:\na:\n\n", 10);
            Check.bad(kind, start + "a:\nb:\na:\n\n", 13);
            Check.bad(kind, start + "a:\nb:\nb:\n\n", 13);
            Check.bad(kind, start + "cache-control: a\ncache-control: a\n\n", 24);
            Check.good(kind, start + "a:\naa:\naaa:\n-a:\na-:\n-:\n\n");
            String twenty = "n".repeat(19);
            Check.good(kind, start + twenty + "a:\n" + twenty + "b:\n" + twenty + ":\n\n");
            Check.bad(kind, start + twenty + "a:\n" + twenty + "a:\n\n", 29);
            Check.good(kind, start + "ab:\nba:\n\n");
            HeadDesk desk = Check.having(kind, start + "a:\nb:\n\n");
            Check.typed(desk, start + "a:\nb:\n\n");
            Check.due("once in each of two TEXTS", Check.read(desk, kind), 2);
            Check.typed(desk, start + "c:\nb:\n!");
            Check.due("none", Check.read(desk, kind), Check.THROWN);
            Check.typed(desk, start + "c:\nb:\n\n");
            Check.due("once in none and in a good one", Check.read(desk, kind), 3);
        }
        Check.bad(R, "GET /1\nrange: bytes=1-\nrange: bytes=2-\n\n", 23);
        Check.bad(R, "GET /1\nif-none-match: *\nif-none-match: *\n\n", 24);
        Check.bad(T, "PUT /1\nlength: 1\nlength: 1\n\n", 17);
        Check.bad(T, "PUT /1\nkeys: a\nkeys: b\n\n", 15);
    }

    private static void asManyNamesAsThereIsRoomFor() {
        Check.sentence("then LINES: NAME : VALUE");
        for (int kind = R; kind <= T; kind++) {
            String most = STARTS[kind] + differentNames(79);
            Check.due("the most names that fit", most.length() <= 299 && most.length() > 295, true);
            Check.good(kind, most + "\n");
            // The last name that fits, but it is the first one, or the one before it.
            String fewer = STARTS[kind] + differentNames(78);
            Check.bad(kind, fewer + "a:\n\n", fewer.length());
            Check.bad(kind, fewer + most.substring(fewer.length() - 4, fewer.length()) + "\n", fewer.length());
        }
    }

    private static String differentNames(int many) {
        String letters = "abcdefghijklmnopqrstuvwxyz-";
        StringBuilder lines = new StringBuilder();
        for (int i = 0; i < many; i++) {
            lines.append(i < 27 ? "" : letters.charAt(i / 27 - 1)).append(letters.charAt(i % 27)).append(":\n");
        }
        return lines.toString();
    }

    private static void anEmptyLineEndsIt() {
        Check.sentence("then an empty LINE, with which it ends");
        for (int kind = R; kind <= T; kind++) {
            String[] starts = {STARTS[kind], STARTS[kind] + "a:\n", STARTS[kind] + "cache-control: a\n"};
            for (String start : starts) {
                Check.bad(kind, start, start.length());
                Check.good(kind, start + "\n");
                Check.bad(kind, start + "\n\n", start.length() + 1);
                Check.bad(kind, start + "\na", start.length() + 1);
                Check.bad(kind, start + "\n ", start.length() + 1);
                Check.bad(kind, start + " \n", start.length());
            }
        }
    }

    private static void wordsOfListsHaveOneToThirtyLetters() {
        Check.sentence("A list: words: small letters or - (1 to 30)");
        for (int kind = R; kind <= T; kind++) {
            String start = STARTS[kind] + "cache-control: ";
            int at = start.length();
            Check.bad(kind, start + "\n\n", at);
            Check.bad(kind, start + "=1\n\n", at);
            Check.bad(kind, start + ", a\n\n", at);
            Check.bad(kind, start + "a, , b\n\n", at + 3);
            Check.bad(kind, start + "a, \n\n", at + 3);
            int[] inside = {1, 2, 20, 21, 22, 29, 30};
            for (int many : inside) {
                Check.good(kind, start + "w".repeat(many) + "\n\n");
                Check.good(kind, start + "a, " + "-".repeat(many) + "=1, b\n\n");
            }
            for (int many = 31; many <= 33; many++) {
                Check.bad(kind, start + "w".repeat(many) + "\n\n", at);
                Check.bad(kind, start + "a, " + "-".repeat(many) + "=1, b\n\n", at + 3);
            }
        }
    }

    private static void wordsOfListsHaveSmallLettersOrBars() {
        Check.sentence("A list: words: small letters or -");
        for (int kind = R; kind <= T; kind++) {
            String start = STARTS[kind] + "cache-control:";
            int at = start.length();
            Check.good(kind, start + "abcdefghijklmnopqrstuvwxyz-, -, a, z\n\n");
            for (int i = 0; i < NO_LETTERS.length(); i++) {
                char other = NO_LETTERS.charAt(i);
                if (other != ' ') {
                    Check.bad(kind, start + other + "\n\n", at);
                }
                boolean mayFollow = other == ',' || other == '=';
                Check.bad(kind, start + "a" + other + "\n\n", mayFollow ? at + 2 : at + 1);
                Check.bad(kind, start + "w".repeat(30) + other + "\n\n", mayFollow ? at + 31 : at + 30);
            }
        }
    }

    private static void wordsArePartedByCommaAndBlank() {
        Check.sentence("words parted by a comma and one blank");
        for (int kind = R; kind <= T; kind++) {
            String start = STARTS[kind] + "cache-control: ";
            int at = start.length();
            String[] firsts = {"a", "a=1", "max-age=12345", "no-cache"};
            for (String first : firsts) {
                int behind = at + first.length();
                Check.good(kind, start + first + "\n\n");
                Check.good(kind, start + first + ", b\n\n");
                Check.bad(kind, start + first + ",b\n\n", behind + 1);
                Check.bad(kind, start + first + ",  b\n\n", behind + 2);
                Check.bad(kind, start + first + " b\n\n", behind);
                Check.bad(kind, start + first + " , b\n\n", behind);
                Check.bad(kind, start + first + ",, b\n\n", behind + 1);
                Check.bad(kind, start + first + ",\n\n", behind + 1);
                Check.bad(kind, start + first + ", \n\n", behind + 2);
            }
        }
    }

    private static void perhapsWithANumber() {
        Check.sentence("perhaps = NUMBER");
        for (int kind = R; kind <= T; kind++) {
            String start = STARTS[kind] + "cache-control: max-age";
            int at = start.length();
            Check.tells(kind, start + "\n\n", 12, HeadDesk.NONE);
            Check.tells(kind, start + "=0\n\n", 12, 0);
            Check.tells(kind, start + "=99999\n\n", 12, 99999);
            Check.bad(kind, start + "=100000\n\n", at + 6);
            Check.bad(kind, start + "=\n\n", at + 1);
            Check.bad(kind, start + "==1\n\n", at + 1);
            Check.bad(kind, start + "=1=1\n\n", at + 2);
            Check.bad(kind, start + "= 1\n\n", at + 1);
            Check.bad(kind, start + " =1\n\n", at);
            Check.bad(kind, start + "=-1\n\n", at + 1);
            Check.bad(kind, start + "1\n\n", at);
        }
    }

    private static void asManyWordsAsThereIsRoomFor() {
        Check.sentence("A list: words");
        for (int kind = R; kind <= T; kind++) {
            String start = STARTS[kind] + "cache-control:";
            String many = start + Check.row("a", ", ", 89) + ", max-age=7\n\n";
            Check.due("a list that fills the tape", many.length() <= 300 && many.length() > 296, true);
            Check.tells(kind, many, 12, 7);
        }
    }
}
