/** The edges of promise 4 (fault) and of what the terms say can't stand, sentence by sentence. */
public final class FaultEdgesTest {
    private static final int NONE = HeadDesk.NONE;
    private static final int R = Check.REQUEST;
    private static final int T = Check.THING;
    private static final String REQUEST = "HEAD /31/3\nrange: bytes=1-2\nif-none-match: \"1\", \"2\"\n"
        + "cache-control: a=1, no-cache\n\n";
    private static final String THING = "PUT /31\nlength: 255\nkeys: a b\ncache-control: a=1, no-cache\n\n";
    /** What may come behind something that is too great or too long: it is never looked at. */
    private static final String[] BEHIND = {"", "!", "\n", "\n\n", ":", ": x\n\n", " ", "=", "=1\n\n", ", a\n\n", "/1\n\n"};

    public static void main(String[] args) {
        noneIfGoodOrNoneWas();
        theLatest();
        theFirstCharacter();
        itsLengthIfItEndsTooEarly();
        numbersTooGreat();
        theFirstFiveDigits();
        namesTooLong();
        wordsTooLong();
        namesThatWereThere();
        behindItsColon();
        behindTheEnd();
        characterByCharacter();
        Check.end();
    }

    private static void noneIfGoodOrNoneWas() {
        Check.sentence("NONE if it was good, or none was");
        HeadDesk desk = new HeadDesk();
        Check.due("none was", desk.fault(), NONE);
        Check.read(desk, 2);
        Check.due("none was, another kind is not read", desk.fault(), NONE);
        Check.typed(desk, "!");
        Check.due("none was, typing is not reading", desk.fault(), NONE);
        Check.read(desk, R);
        Check.due("at its first character", desk.fault(), 0);
        Check.typed(desk, REQUEST);
        Check.read(desk, R);
        Check.due("good", desk.fault(), NONE);
        Check.typed(desk, "!");
        Check.read(desk, -1);
        Check.due("good, another kind is not read", desk.fault(), NONE);
    }

    private static void theLatest() {
        Check.sentence("Where the latest TEXT that was read can't go on");
        HeadDesk desk = new HeadDesk();
        String[] texts = {"GE!", "G!", "GET!", "GET /1\n\n", "", "GET /32", "GET /1\n\n!", "GET /1\n\n"};
        int[] faults = {2, 1, 3, NONE, 0, 5, 8, NONE};
        for (int i = 0; i < texts.length; i++) {
            Check.typed(desk, texts[i]);
            Check.read(desk, R);
            Check.due("fault of " + Check.shown(texts[i]), desk.fault(), faults[i]);
            Check.due("fault, asked again", desk.fault(), faults[i]);
            Check.read(desk, 2);
            Check.due("fault behind another kind", desk.fault(), faults[i]);
        }
    }

    private static void theFirstCharacter() {
        Check.sentence("the first character with which it is no such TEXT");
        spoilEach(R, REQUEST);
        spoilEach(T, THING);
        Check.bad(R, "GE! /99\nX\n", 2);
        Check.bad(R, "GET /31/3\nx\ny\n", 11);
        Check.bad(R, "GET /99/99\nx\ny\n", 5);
        Check.bad(R, "GET /1/99\nx\ny\n", 7);
    }

    private static void spoilEach(int kind, String text) {
        Check.good(kind, text);
        for (int at = 0; at < text.length(); at++) {
            Check.bad(kind, text.substring(0, at) + "!" + text.substring(at + 1), at);
            Check.bad(kind, text.substring(0, at) + "!!", at);
        }
    }

    private static void itsLengthIfItEndsTooEarly() {
        Check.sentence("its length, if it ends too early");
        for (int length = 0; length < REQUEST.length(); length++) {
            Check.bad(R, REQUEST.substring(0, length), length);
        }
        for (int length = 0; length < THING.length(); length++) {
            Check.bad(T, THING.substring(0, length), length);
        }
        for (int length = 298; length <= 300; length++) {
            Check.bad(R, "GET /1\nx:" + "y".repeat(length - 9), length);
            Check.bad(T, "PUT /1\nx:" + "y".repeat(length - 10) + "\n", length);
            Check.bad(R, "GET /1\nx:" + "y".repeat(length - 11) + "\nz", length);
        }
    }

    private static void numbersTooGreat() {
        Check.sentence("of a NUMBER that is too great its first character, ahead of what stands behind it");
        for (String behind : BEHIND) {
            Check.bad(R, "GET /32" + behind, 5);
            Check.bad(R, "HEAD /99999" + behind, 6);
            Check.bad(R, "GET /31/4" + behind, 8);
            Check.bad(R, "HEAD /0/99999" + behind, 8);
            Check.bad(T, "PUT /32" + behind, 5);
            Check.bad(T, "PUT /1\nlength: 256" + behind, 15);
            Check.bad(T, "PUT /1\nlength:99999" + behind, 14);
        }
        Check.bad(R, "GET /31!", 7);
        Check.bad(R, "GET /31/3!", 9);
        Check.bad(T, "PUT /1\nlength: 255!", 18);
    }

    private static void theFirstFiveDigits() {
        Check.sentence("its first five digits; a sixth one can't stand behind them");
        Check.bad(R, "GET /00031\n", 11);
        Check.bad(R, "GET /000310", 10);
        Check.bad(R, "GET /000031", 10);
        Check.bad(R, "GET /000032", 10);
        Check.bad(R, "GET /000099999", 10);
        Check.bad(R, "GET /00032", 5);
        Check.bad(R, "GET /000320", 5);
        Check.bad(R, "GET /100000", 5);
        Check.bad(R, "GET /99999999999999999999\n", 5);
        Check.bad(R, "GET /1/000030", 12);
        Check.bad(R, "GET /1/000004", 12);
        Check.bad(R, "GET /1/000040", 7);
        Check.bad(R, "GET /1/99999999999999999999\n", 7);
        Check.bad(T, "PUT /000320", 5);
        Check.bad(T, "PUT /000032", 10);
        Check.bad(T, "PUT /1\nlength: 002550", 20);
        Check.bad(T, "PUT /1\nlength: 000256", 20);
        Check.bad(T, "PUT /1\nlength: 002560", 15);
        Check.bad(T, "PUT /1\nlength: 4294967296\n\n", 15);
        Check.bad(T, "PUT /1\nlength: 0000000000\n\n", 20);
        Check.bad(R, "GET /1\nrange: bytes=999999-", 25);
        Check.bad(R, "GET /1\nrange: bytes=1-999999", 27);
        Check.bad(R, "GET /1\nrange: bytes=-999999", 26);
        Check.bad(R, "GET /1\nif-none-match: \"999999\"", 28);
        Check.bad(R, "GET /1\ncache-control: max-age=999999", 35);
    }

    private static void namesTooLong() {
        Check.sentence("of a NAME that is too long its first character, ahead of what stands behind it");
        String twenty = "abcdefghij-klmnopqrs";
        for (String behind : BEHIND) {
            Check.bad(R, "GET /1\n" + twenty + "t" + behind, 7);
            Check.bad(R, "GET /1\nx:\n" + twenty + "-" + behind, 10);
            Check.bad(T, "PUT /1\n" + twenty + twenty + behind, 7);
        }
        Check.bad(R, "GET /1\n" + twenty, 27);
        Check.bad(R, "GET /1\n" + twenty + "!", 27);
        Check.bad(R, "GET /1\n" + twenty + "1", 27);
        Check.good(R, "GET /1\n" + twenty + ":\n\n");
        // It was there with twenty letters, but with one more it is too long all the same.
        Check.bad(R, "GET /1\n" + twenty + ":\n" + twenty + "t:\n\n", 29);
    }

    private static void wordsTooLong() {
        Check.sentence("of a word that is too long its first character, ahead of what stands behind it");
        String thirty = "abcdefghijklm-nopqrstuvwxyz-ab";
        for (int kind = R; kind <= T; kind++) {
            String start = (kind == R ? "GET" : "PUT") + " /1\ncache-control: ";
            int at = start.length();
            for (String behind : BEHIND) {
                Check.bad(kind, start + thirty + "c" + behind, at);
                Check.bad(kind, start + "max-age=1, " + thirty + "-" + behind, at + 11);
                Check.bad(kind, start + thirty + thirty + behind, at);
            }
            Check.bad(kind, start + thirty, at + 30);
            Check.bad(kind, start + thirty + "!", at + 30);
            Check.bad(kind, start + thirty + "1", at + 30);
            Check.bad(kind, start + thirty + "=", at + 31);
            Check.good(kind, start + thirty + "\n\n");
            Check.good(kind, start + thirty + "=1, " + thirty + "\n\n");
        }
    }

    private static void namesThatWereThere() {
        Check.sentence("of a NAME that was there its first character");
        for (String behind : BEHIND) {
            Check.bad(R, "GET /1\nab:\nab:" + behind, 11);
            Check.bad(R, "GET /1\nrange: bytes=5-\nab:\nrange:" + behind, 27);
            Check.bad(R, "GET /1\nif-none-match: *\nif-none-match:" + behind, 24);
            Check.bad(T, "PUT /1\nkeys: a\nkeys:" + behind, 15);
            Check.bad(T, "PUT /1\nlength: 1\nlength:" + behind, 17);
            Check.bad(T, "PUT /1\ncache-control: a\ncache-control:" + behind, 24);
        }
    }

    private static void behindItsColon() {
        Check.sentence("of a NAME that was there its first character (behind its :)");
        Check.bad(R, "GET /1\nab:\nab", 13);
        Check.bad(R, "GET /1\nab:\nab!", 13);
        Check.bad(R, "GET /1\nab:\nab\n", 13);
        Check.bad(R, "GET /1\nab:\nab :", 13);
        Check.bad(R, "GET /1\nab:\nab:", 11);
        Check.good(R, "GET /1\nab:\nabc:\n\n");
        Check.bad(R, "GET /1\nab:\na!", 12);
    }

    private static void behindTheEnd() {
        Check.sentence("of what stands behind the end the first one");
        String[] behind = {"\n", " ", "!", "x: y\n\n", "GET /1\n\n", "\n\n\n"};
        for (String more : behind) {
            Check.bad(R, "GET /1\n\n" + more, 8);
            Check.bad(R, REQUEST + more, REQUEST.length());
            Check.bad(T, THING + more, THING.length());
        }
        String most = "GET /1\nx:" + "y".repeat(288) + "\n\n";
        Check.due("299 characters", most.length(), 299);
        Check.good(R, most);
        Check.bad(R, most + "\n", 299);
        Check.bad(R, most + "x", 299);
        Check.good(R, most.replace("x:", "x:y"));
    }

    private static void characterByCharacter() {
        Check.sentence("The words GET, HEAD, PUT and bytes= are looked at character by character");
        each(R, "", "GET", " /1\n\n");
        each(R, "", "HEAD", " /1\n\n");
        each(T, "", "PUT", " /1\n\n");
        each(R, "GET /1\nrange:", "bytes=", "1-2\n\n");
        each(R, "GET /1\nrange: ", "bytes=", "-2\n\n");
    }

    private static void each(int kind, String before, String word, String behind) {
        Check.good(kind, before + word + behind);
        for (int i = 0; i < word.length(); i++) {
            int at = before.length() + i;
            String right = before + word.substring(0, i);
            Check.bad(kind, right, at);
            Check.bad(kind, right + "\n\n", at);
            Check.bad(kind, right + "!" + word.substring(i + 1) + behind, at);
            Check.bad(kind, right + otherCase(word.substring(i, i + 1)) + word.substring(i + 1) + behind, at);
        }
    }

    private static String otherCase(String letter) {
        String upper = letter.toUpperCase();
        // The = has no other case.
        return letter.equals("=") ? "-" : letter.equals(upper) ? letter.toLowerCase() : upper;
    }
}
