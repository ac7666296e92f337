/** The edges of a REQUEST, sentence by sentence. */
public final class RequestEdgesTest {
    private static final int NONE = HeadDesk.NONE;
    private static final int R = Check.REQUEST;
    private static final String START = "GET /1\n";

    public static void main(String[] args) {
        theWordGetOrHead();
        formsOfRange();
        fromAboveTo();
        starOrNumbers();
        eightAtMost();
        withoutTheBlanks();
        wordsThatCount();
        theLastMaxStale();
        ofOthersTheLastNumber();
        otherWordsDoNotCount();
        otherNamesHaveAnyValue();
        otherNamesDoNotCount();
        Check.end();
    }

    private static void theWordGetOrHead() {
        Check.sentence("A REQUEST: the word GET or HEAD");
        Check.tells(R, "GET /1\n\n", 0, 1);
        Check.tells(R, "HEAD /1\n\n", 0, 2);
        Check.bad(R, "PUT /1\n\n", 0);
        Check.bad(R, " /1\n\n", 0);
        Check.bad(R, "GE /1\n\n", 2);
        Check.bad(R, "GETS /1\n\n", 3);
        Check.bad(R, "HEA /1\n\n", 3);
        Check.bad(R, "HEADS /1\n\n", 4);
        Check.bad(R, "HET /1\n\n", 2);
        Check.bad(R, "GEAD /1\n\n", 2);
        Check.bad(R, "Get /1\n\n", 1);
        Check.bad(R, "head /1\n\n", 0);
        Check.bad(R, "FET /1\n\n", 0);
        Check.bad(R, "IEAD /1\n\n", 0);
    }

    private static void range(String value, int form, int from, int to) {
        String[] words = {"GET", "HEAD"};
        for (String word : words) {
            String text = word + " /1\nrange: " + value + "\n\n";
            Check.tells(R, text, 3, form);
            Check.tells(R, text, 4, from);
            Check.tells(R, text, 5, to);
        }
    }

    private static void formsOfRange() {
        Check.sentence("range: bytes=A-B, bytes=A-, bytes=-N (NUMBERS)");
        range("bytes=0-0", 1, 0, 0);
        range("bytes=0-1", 1, 0, 1);
        range("bytes=0-", 2, 0, NONE);
        range("bytes=-0", 3, 0, NONE);
        range("bytes=99999-99999", 1, 99999, 99999);
        range("bytes=99999-", 2, 99999, NONE);
        range("bytes=-99999", 3, 99999, NONE);
        String start = START + "range: ";
        int at = start.length();
        Check.bad(R, start + "bytes=100000-\n\n", at + 11);
        Check.bad(R, start + "bytes=1-100000\n\n", at + 13);
        Check.bad(R, start + "bytes=-100000\n\n", at + 12);
        Check.bad(R, start + "\n\n", at);
        Check.bad(R, start + "bytes\n\n", at + 5);
        Check.bad(R, start + "bytes=\n\n", at + 6);
        Check.bad(R, start + "bytes=-\n\n", at + 7);
        Check.bad(R, start + "bytes=1\n\n", at + 7);
        Check.bad(R, start + "bytes=--1\n\n", at + 7);
        Check.bad(R, start + "bytes=1--2\n\n", at + 8);
        Check.bad(R, start + "bytes=-1-\n\n", at + 8);
        Check.bad(R, start + "bytes=-1-2\n\n", at + 8);
        Check.bad(R, start + "bytes=1-2-\n\n", at + 9);
        Check.bad(R, start + "bytes=1-2,3-4\n\n", at + 9);
        Check.bad(R, start + "bytes= 1-2\n\n", at + 6);
        Check.bad(R, start + "bytes=1 -2\n\n", at + 7);
        Check.bad(R, start + "bytes=1- 2\n\n", at + 8);
        Check.bad(R, start + "bytes= -2\n\n", at + 6);
        Check.bad(R, start + "*\n\n", at);
    }

    private static void fromAboveTo() {
        Check.sentence("with A above B it does not count");
        range("bytes=6-7", 1, 6, 7);
        range("bytes=7-7", 1, 7, 7);
        range("bytes=8-7", 0, NONE, NONE);
        range("bytes=1-0", 0, NONE, NONE);
        range("bytes=9-10", 1, 9, 10);
        range("bytes=10-9", 0, NONE, NONE);
        range("bytes=00010-10", 1, 10, 10);
        range("bytes=2-00001", 0, NONE, NONE);
        range("bytes=99998-99999", 1, 99998, 99999);
        range("bytes=99999-99998", 0, NONE, NONE);
        range("bytes=99999-0", 0, NONE, NONE);
        HeadDesk desk = Check.having(R, "GET /1\nrange: bytes=2-3\n\n");
        Check.typed(desk, "GET /1\nrange: bytes=3-2\n\n");
        Check.due("it is a good TEXT all the same", Check.read(desk, R), 2);
        Check.due("told(3)", desk.told(3), 0);
        Check.due("told(4)", desk.told(4), NONE);
        Check.due("told(5)", desk.told(5), NONE);
        Check.due("bytes(9, 0)", desk.bytes(9, 0), 0);
        Check.due("bytes(9, 1)", desk.bytes(9, 1), 8);
        Check.due("bytes(9, 2)", desk.bytes(9, 2), 9);
    }

    private static void starOrNumbers() {
        Check.sentence("if-none-match: * or, parted by a comma and one blank, \" NUMBER \"");
        String start = START + "if-none-match: ";
        int at = start.length();
        Check.tells(R, start + "*\n\n", 6, 1);
        Check.tells(R, start + "*\n\n", 7, 0);
        Check.tells(R, start + "\"0\"\n\n", 6, 0);
        Check.tells(R, start + "\"0\"\n\n", 7, 1);
        Check.tells(R, start + "\"99999\", \"0\"\n\n", 7, 2);
        Check.bad(R, start + "\n\n", at);
        Check.bad(R, start + "**\n\n", at + 1);
        Check.bad(R, start + "*, *\n\n", at + 1);
        Check.bad(R, start + "*, \"1\"\n\n", at + 1);
        Check.bad(R, start + "\"1\", *\n\n", at + 5);
        Check.bad(R, start + "\"*\"\n\n", at + 1);
        Check.bad(R, start + "1\n\n", at);
        Check.bad(R, start + "\"1\n\n", at + 2);
        Check.bad(R, start + "\"\"\n\n", at + 1);
        Check.bad(R, start + "\"100000\"\n\n", at + 6);
        Check.bad(R, start + "\"1\",\"2\"\n\n", at + 4);
        Check.bad(R, start + "\"1\",  \"2\"\n\n", at + 5);
        Check.bad(R, start + "\"1\" \"2\"\n\n", at + 3);
        Check.bad(R, start + "\"1\"\"2\"\n\n", at + 3);
        Check.bad(R, start + "\"1\",\n\n", at + 4);
        Check.bad(R, start + "\"1\", \n\n", at + 5);
        Check.bad(R, start + "\"1\", 2\n\n", at + 5);
    }

    private static void eightAtMost() {
        Check.sentence("8 at most");
        String start = START + "if-none-match: ";
        StringBuilder different = new StringBuilder();
        for (int many = 1; many <= 8; many++) {
            different.append(many == 1 ? "\"" : ", \"").append(many).append('"');
            Check.tells(R, start + different + "\n\n", 7, many);
            Check.tells(R, start + Check.row("\"3\"", ", ", many) + "\n\n", 7, 1);
            Check.tells(R, start + Check.row("\"12345\"", ", ", many) + "\n\n", 7, 1);
        }
        int behind = start.length() + different.length();
        Check.bad(R, start + different + ", \"9\"\n\n", behind);
        Check.bad(R, start + different + ", \"8\"\n\n", behind);
        Check.bad(R, start + different + ", \"9\", \"10\"\n\n", behind);
        Check.bad(R, start + different + ",", behind);
        Check.bad(R, start + different + ", \n\n", behind);
        Check.bad(R, start + Check.row("\"3\"", ", ", 9) + "\n\n", behind);
        Check.good(R, start + different + "\nx:\n\n");
    }

    private static void withoutTheBlanks() {
        Check.sentence("without the blanks");
        String start = START + "if-none-match: ";
        int at = start.length();
        Check.good(R, start + "\"1\"\n\n");
        Check.bad(R, start + "\" 1\"\n\n", at + 1);
        Check.bad(R, start + "\"1 \"\n\n", at + 2);
        Check.bad(R, start + "\" 1 \"\n\n", at + 1);
        Check.bad(R, start + "\"1\", \" 2\"\n\n", at + 6);
        Check.bad(R, start + "\"1\", \"2 \"\n\n", at + 7);
        Check.bad(R, start + "\"1\" \n\n", at + 3);
        Check.bad(R, start + "* \n\n", at + 1);
    }

    private static void list(String words, int what, int want) {
        Check.tells(R, START + "cache-control: " + words + "\n\n", what, want);
    }

    private static void wordsThatCount() {
        Check.sentence("no-cache, only-if-cached, max-age=N, max-stale, max-stale=N, min-fresh=N count");
        list("no-cache", 10, 1);
        list("only-if-cached", 11, 1);
        list("max-age=0", 12, 0);
        list("max-age=99999", 12, 99999);
        list("max-stale", 13, -2);
        list("max-stale=0", 13, 0);
        list("max-stale=99999", 13, 99999);
        list("min-fresh=0", 14, 0);
        list("min-fresh=99999", 14, 99999);
        list("a, no-cache, b", 10, 1);
        list("a=1, only-if-cached, b=2", 11, 1);
        list("no-cache, no-cache", 10, 1);
        list("only-if-cached, only-if-cached", 11, 1);
        int[] without = {0, 0, NONE, NONE, NONE};
        for (int i = 0; i < without.length; i++) {
            list("a", 10 + i, without[i]);
            Check.tells(R, START + "\n", 10 + i, without[i]);
        }
    }

    private static void theLastMaxStale() {
        Check.sentence("of max-stale the last one, with or without N");
        list("max-stale, max-stale=5", 13, 5);
        list("max-stale=5, max-stale", 13, -2);
        list("max-stale=5, max-stale=6", 13, 6);
        list("max-stale=6, max-stale=5", 13, 5);
        list("max-stale, max-stale", 13, -2);
        list("max-stale=5, max-stale, max-stale=0", 13, 0);
        list("max-stale=5, max-age=7", 13, 5);
    }

    private static void ofOthersTheLastNumber() {
        Check.sentence("of others those as told, the last N");
        list("max-age=5, max-age=4", 12, 4);
        list("max-age=4, max-age=5", 12, 5);
        list("max-age=5, max-age", 12, 5);
        list("max-age, max-age=5", 12, 5);
        list("max-age", 12, NONE);
        list("min-fresh=5, min-fresh=4", 14, 4);
        list("min-fresh=5, min-fresh", 14, 5);
        list("min-fresh, min-fresh=5", 14, 5);
        list("min-fresh", 14, NONE);
        list("no-cache=0", 10, 0);
        list("no-cache=1", 10, 0);
        list("no-cache, no-cache=0", 10, 1);
        list("only-if-cached=1", 11, 0);
        list("only-if-cached=1, only-if-cached", 11, 1);
    }

    private static void otherWordsDoNotCount() {
        Check.sentence("other words do not");
        String[] others = {"no-cach", "no-cachee", "no-cache-", "-no-cache", "nocache", "only-if-cache",
            "only-if-cachedd", "max-ag=1", "max-agee=1", "max-age-=1", "xmax-age=1", "max-stal",
            "max-stalee", "max-stal=1", "max-stalee=1", "min-fres=1", "min-freshh=1", "no-store", "no-store=1",
            "stale-if-error=1", "stale-while-revalidate=1", "no-transform", "public", "s-maxage=1"};
        for (String other : others) {
            Check.countsNothing(R, START, "cache-control: " + other);
        }
        String[] counting = {"no-cache", "only-if-cached", "max-age", "max-stale", "min-fresh"};
        for (String word : counting) {
            for (String near : Check.nearly(word)) {
                Check.countsNothing(R, START, "cache-control: " + near, "cache-control: " + near + "=1");
            }
        }
    }

    private static void otherNamesHaveAnyValue() {
        Check.sentence("Other NAMES have any VALUE (characters 32 .. 126, perhaps none)");
        for (int mark = 32; mark <= 126; mark++) {
            Check.good(R, START + "x:" + (char) mark + "\n\n");
            Check.good(R, START + "x: " + (char) mark + (char) mark + "\n\n");
        }
        Check.good(R, START + "x:\n\n");
        Check.good(R, START + "x: \n\n");
        String start = START + "x:";
        Check.good(R, start + "y".repeat(298 - start.length()) + "\n\n");
        Check.bad(R, start + "y".repeat(299 - start.length()) + "\n", 300);
        Check.bad(R, start + "y".repeat(300 - start.length()), 300);
        Check.bad(R, START + "x:\ny\n\n", 11);
    }

    private static void otherNamesDoNotCount() {
        Check.sentence("Other NAMES do not count");
        Check.countsNothing(R, START, "length: 5", "length: 256", "length:", "keys: a", "keys: i", "keys:",
            "rang: bytes=1-2", "ranges: bytes=1-2", "-range: bytes=1-2", "if-none-matc: *",
            "if-none-matchs: *", "if-match: *", "cache-contro: no-cache", "cache-controls: no-cache",
            "x: bytes=1-2", "range-: x", "y: cache-control: no-cache");
        for (String near : Check.nearly("range")) {
            Check.countsNothing(R, START, near + ": bytes=1-2", near + ": x");
        }
        for (String near : Check.nearly("if-none-match")) {
            Check.countsNothing(R, START, near + ": *", near + ": \"1\"", near + ": x");
        }
        for (String near : Check.nearly("cache-control")) {
            Check.countsNothing(R, START, near + ": no-cache, max-age=1", near + ": X");
        }
    }
}
