/** The edges of a THING, sentence by sentence. */
public final class ThingEdgesTest {
    private static final int NONE = HeadDesk.NONE;
    private static final int T = Check.THING;
    private static final String START = "PUT /1\n";

    public static void main(String[] args) {
        theWordPut();
        withoutVariant();
        lengths();
        wordsThatCount();
        likewise();
        otherWordsDoNotCount();
        oneToEightKeys();
        keysFromAToH();
        keysPartedByOneBlank();
        othersAsAbove();
        Check.end();
    }

    private static void theWordPut() {
        Check.sentence("A THING: the word PUT");
        Check.tells(T, "PUT /1\n\n", 0, 3);
        Check.bad(T, "GET /1\n\n", 0);
        Check.bad(T, "HEAD /1\n\n", 0);
        Check.bad(T, "put /1\n\n", 0);
        Check.bad(T, "PU /1\n\n", 2);
        Check.bad(T, "PUTS /1\n\n", 3);
        Check.bad(T, "POT /1\n\n", 1);
        Check.bad(T, "PUS /1\n\n", 2);
        Check.bad(T, "OUT /1\n\n", 0);
    }

    private static void withoutVariant() {
        Check.sentence("a TARGET without VARIANT");
        Check.tells(T, "PUT /31\n\n", 2, 0);
        Check.bad(T, "PUT /31/\n\n", 7);
        Check.bad(T, "PUT /31/0\n\n", 7);
        Check.bad(T, "PUT /31/3\n\n", 7);
        Check.bad(T, "PUT /31/4\n\n", 7);
        Check.bad(T, "PUT /31/", 7);
        HeadDesk desk = Check.having(Check.REQUEST, "GET /1/2\n\n");
        Check.typed(desk, "PUT /1\n\n");
        Check.due("read", Check.read(desk, T), 2);
        Check.due("told(2)", desk.told(2), 0);
    }

    private static void lengths() {
        Check.sentence("length: NUMBER (0 .. 255; 0 without)");
        int[] inside = {0, 1, 9, 10, 99, 100, 127, 128, 254, 255};
        for (int length : inside) {
            Check.tells(T, START + "length: " + length + "\n\n", 8, length);
            Check.tells(T, START + "length:" + length + "\nx:\n\n", 8, length);
        }
        Check.tells(T, START + "length: 00000\n\n", 8, 0);
        Check.tells(T, START + "length: 00255\n\n", 8, 255);
        String[] beyond = {"256", "257", "260", "300", "0256", "00256", "511", "512", "999", "65536", "99999"};
        for (String length : beyond) {
            Check.bad(T, START + "length: " + length + "\n\n", 15);
            Check.bad(T, START + "length:" + length + "\n\n", 14);
        }
        Check.bad(T, START + "length: \n\n", 15);
        Check.bad(T, START + "length:\n\n", 14);
        Check.bad(T, START + "length: -1\n\n", 15);
        Check.bad(T, START + "length: 1, 2\n\n", 16);
        Check.tells(T, START + "\n", 8, 0);
        Check.tells(T, START + "x: 5\n\n", 8, 0);
        HeadDesk desk = Check.having(T, START + "length: 9\n\n");
        Check.typed(desk, START + "\n");
        Check.due("read", Check.read(desk, T), 2);
        Check.due("0, not that of an older TEXT", desk.told(8), 0);
    }

    private static void list(String words, int what, int want) {
        Check.tells(T, START + "cache-control: " + words + "\n\n", what, want);
    }

    private static void wordsThatCount() {
        Check.sentence("max-age=N, stale-if-error=N, stale-while-revalidate=N, no-store, no-cache count");
        list("max-age=0", 12, 0);
        list("max-age=99999", 12, 99999);
        list("stale-if-error=0", 16, 0);
        list("stale-if-error=99999", 16, 99999);
        list("stale-while-revalidate=0", 17, 0);
        list("stale-while-revalidate=99999", 17, 99999);
        list("no-store", 15, 1);
        list("no-cache", 10, 1);
        list("no-store, no-store", 15, 1);
        list("a, no-store, b", 15, 1);
        int[] whats = {10, 12, 15, 16, 17};
        int[] without = {0, NONE, 0, NONE, NONE};
        for (int i = 0; i < whats.length; i++) {
            list("a", whats[i], without[i]);
            Check.tells(T, START + "\n", whats[i], without[i]);
        }
    }

    private static void likewise() {
        Check.sentence("count, likewise (those as told, the last N)");
        String[] words = {"max-age", "stale-if-error", "stale-while-revalidate"};
        int[] whats = {12, 16, 17};
        for (int i = 0; i < words.length; i++) {
            list(words[i], whats[i], NONE);
            list(words[i] + "=5, " + words[i] + "=4", whats[i], 4);
            list(words[i] + "=4, " + words[i] + "=5", whats[i], 5);
            list(words[i] + "=5, " + words[i], whats[i], 5);
            list(words[i] + ", " + words[i] + "=5", whats[i], 5);
        }
        list("no-store=1", 15, 0);
        list("no-store, no-store=0", 15, 1);
        list("no-cache=1", 10, 0);
        list("no-cache, no-cache=0", 10, 1);
    }

    private static void otherWordsDoNotCount() {
        Check.sentence("other words do not");
        String[] others = {"only-if-cached", "max-stale", "max-stale=1", "min-fresh=1", "no-stor", "no-storee",
            "no-cach", "no-cachee", "max-ag=1", "max-agee=1", "stale-if-erro=1", "stale-if-errorr=1",
            "stale-while-revalidat=1", "stale-while-revalidatee=1", "-no-store", "no-store-", "private"};
        for (String other : others) {
            Check.countsNothing(T, START, "cache-control: " + other);
        }
        String[] counting = {"no-cache", "no-store", "max-age", "stale-if-error", "stale-while-revalidate"};
        for (String word : counting) {
            for (String near : Check.nearly(word)) {
                Check.countsNothing(T, START, "cache-control: " + near, "cache-control: " + near + "=1");
            }
        }
    }

    private static void oneToEightKeys() {
        Check.sentence("keys: 1 to 8 letters");
        String start = START + "keys: ";
        int at = start.length();
        Check.bad(T, start + "\n\n", at);
        Check.bad(T, START + "keys:\n\n", at - 1);
        String letters = "a b c d e f g h";
        for (int many = 1; many <= 8; many++) {
            Check.tells(T, start + letters.substring(0, 2 * many - 1) + "\n\n", 9, (1 << many) - 1);
            Check.tells(T, start + Check.row("h", " ", many) + "\n\n", 9, 128);
        }
        Check.bad(T, start + letters + " a\n\n", at + 15);
        Check.bad(T, start + letters + " i\n\n", at + 15);
        Check.bad(T, start + letters + " ", at + 15);
        Check.bad(T, start + letters + " \n\n", at + 15);
        Check.bad(T, start + Check.row("h", " ", 9) + "\n\n", at + 15);
        Check.bad(T, start + Check.row("h", " ", 10) + "\n\n", at + 15);
    }

    private static void keysFromAToH() {
        Check.sentence("letters a .. h");
        String start = START + "keys: ";
        int at = start.length();
        for (int bit = 0; bit < 8; bit++) {
            Check.tells(T, start + (char) ('a' + bit) + "\n\n", 9, 1 << bit);
        }
        Check.tells(T, start + "h a\n\n", 9, 129);
        Check.tells(T, START + "\n", 9, 0);
        String others = "`ijz{AHI-1,";
        for (int i = 0; i < others.length(); i++) {
            Check.bad(T, start + others.charAt(i) + "\n\n", at);
            Check.bad(T, start + "a " + others.charAt(i) + "\n\n", at + 2);
        }
    }

    private static void keysPartedByOneBlank() {
        Check.sentence("parted by one blank each");
        String start = START + "keys: ";
        int at = start.length();
        Check.good(T, start + "a b\n\n");
        Check.bad(T, start + "ab\n\n", at + 1);
        Check.bad(T, start + "a  b\n\n", at + 2);
        Check.bad(T, start + "a,b\n\n", at + 1);
        Check.bad(T, start + "a, b\n\n", at + 1);
        Check.bad(T, start + "a \n\n", at + 2);
        Check.bad(T, start + " a\n\n", at);
        Check.bad(T, start + "a b c d e f gh\n\n", at + 13);
    }

    private static void othersAsAbove() {
        Check.sentence("Others as above");
        Check.countsNothing(T, START, "range: bytes=1-2", "range: bytes=-3", "range: x", "range:",
            "if-none-match: *", "if-none-match: \"1\"", "if-none-match: x", "if-none-match:", "lengt: 5",
            "lengths: 5", "content-length: 5", "key: a", "keyss: a", "-keys: a", "cache-contro: no-store",
            "cache-controls: no-store", "x: length: 5");
        for (String near : Check.nearly("length")) {
            Check.countsNothing(T, START, near + ": 5", near + ": 256");
        }
        for (String near : Check.nearly("keys")) {
            Check.countsNothing(T, START, near + ": a", near + ": i");
        }
        for (String near : Check.nearly("cache-control")) {
            Check.countsNothing(T, START, near + ": no-store, max-age=1", near + ": X");
        }
        for (int mark = 32; mark <= 126; mark++) {
            Check.good(T, START + "range:" + (char) mark + "\n\n");
        }
    }
}
