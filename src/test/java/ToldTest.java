/** Promise 5: what the latest good TEXT tells. */
public final class ToldTest {
    private static final int NONE = HeadDesk.NONE;

    public static void main(String[] args) {
        tells(Check.REQUEST, "GET /0\n\n",
            1, 0, 0, 0, NONE, NONE, 0, 0, 0, 0, 0, 0, NONE, NONE, NONE, 0, NONE, NONE);
        tells(Check.REQUEST, "HEAD /31/3\nlength: 5\nkeys: a\n\n",
            2, 31, 3, 0, NONE, NONE, 0, 0, 0, 0, 0, 0, NONE, NONE, NONE, 0, NONE, NONE);
        tells(Check.THING, "PUT /00030\nlength: 00255\nkeys: h a a\n\n",
            3, 30, 0, 0, NONE, NONE, 0, 0, 255, 129, 0, 0, NONE, NONE, NONE, 0, NONE, NONE);
        tells(Check.THING, "PUT /1\nrange: bytes=1-2\nif-none-match: *\n\n",
            3, 1, 0, 0, NONE, NONE, 0, 0, 0, 0, 0, 0, NONE, NONE, NONE, 0, NONE, NONE);
        String all = "cache-control: no-cache, only-if-cached, max-age=0, max-stale=1, min-fresh=2, "
            + "no-store, stale-if-error=3, stale-while-revalidate=99999\n\n";
        tells(Check.REQUEST, "GET /1\n" + all,
            1, 1, 0, 0, NONE, NONE, 0, 0, 0, 0, 1, 1, 0, 1, 2, 0, NONE, NONE);
        tells(Check.THING, "PUT /1\n" + all,
            3, 1, 0, 0, NONE, NONE, 0, 0, 0, 0, 1, 0, 0, NONE, NONE, 1, 3, 99999);
        ranges();
        versions();
        words();
        Check.end();
    }

    private static void tells(int kind, String text, int... due) {
        HeadDesk desk = Check.having(kind, text);
        for (int what = 0; what < due.length; what++) {
            Check.due("told(" + what + ") of " + Check.shown(text), desk.told(what), due[what]);
        }
        int[] wrong = {-1, 18, 19, Integer.MIN_VALUE, Integer.MAX_VALUE};
        for (int what : wrong) {
            Check.due("told(" + what + ")", desk.told(what), NONE);
        }
    }

    private static void told(int kind, String line, int what, int due) {
        String text = (kind == Check.REQUEST ? "GET" : "PUT") + " /1\n" + line + "\n\n";
        Check.due("told(" + what + ") of " + Check.shown(text), Check.having(kind, text).told(what), due);
    }

    private static void range(String value, int form, int from, int to) {
        told(Check.REQUEST, "range: " + value, 3, form);
        told(Check.REQUEST, "range: " + value, 4, from);
        told(Check.REQUEST, "range: " + value, 5, to);
    }

    private static void ranges() {
        range("bytes=0-0", 1, 0, 0);
        range("bytes=3-99999", 1, 3, 99999);
        range("bytes=007-7", 1, 7, 7);
        range("bytes=4-", 2, 4, NONE);
        range("bytes=-5", 3, 5, NONE);
        range("bytes=-0", 3, 0, NONE);
        range("bytes=8-7", 0, NONE, NONE);
    }

    private static void versions() {
        told(Check.REQUEST, "if-none-match: *", 6, 1);
        told(Check.REQUEST, "if-none-match: *", 7, 0);
        told(Check.REQUEST, "if-none-match: \"0\"", 6, 0);
        told(Check.REQUEST, "if-none-match: \"0\"", 7, 1);
        told(Check.REQUEST, "if-none-match: \"5\", \"6\", \"5\", \"6\", \"7\"", 7, 3);
        told(Check.REQUEST, "if-none-match: \"5\", \"005\"", 7, 1);
        told(Check.REQUEST, "if-none-match: \"1\", \"2\", \"3\", \"4\", \"5\", \"6\", \"7\", \"8\"", 7, 8);
    }

    private static void words() {
        for (int kind = Check.REQUEST; kind <= Check.THING; kind++) {
            told(kind, "cache-control: max-age=5, max-age=6", 12, 6);
            told(kind, "cache-control: max-age=5, max-age", 12, 5);
            told(kind, "cache-control: max-age", 12, NONE);
            told(kind, "cache-control: no-cache=1", 10, 0);
            told(kind, "cache-control: no-cache, no-cache=0", 10, 1);
            told(kind, "cache-control: no-cach, no-cache-, xmax-age=1", 10, 0);
            told(kind, "cache-contro: no-cache", 10, 0);
        }
        told(Check.REQUEST, "cache-control: max-stale", 13, -2);
        told(Check.REQUEST, "cache-control: max-stale=0", 13, 0);
        told(Check.REQUEST, "cache-control: max-stale, max-stale=7", 13, 7);
        told(Check.REQUEST, "cache-control: max-stale=7, max-stale", 13, -2);
        told(Check.REQUEST, "cache-control: only-if-cached=1", 11, 0);
        told(Check.REQUEST, "cache-control: min-fresh=1, min-fresh=3, min-fresh", 14, 3);
        told(Check.THING, "cache-control: no-store=1", 15, 0);
        told(Check.THING, "cache-control: stale-if-error=1, stale-if-error=2", 16, 2);
        told(Check.THING, "cache-control: stale-if-error", 16, NONE);
        told(Check.THING, "cache-control: stale-while-revalidate", 17, NONE);
        told(Check.THING, "cache-control: stale-while-revalidate=9, stale-while-revalidate", 17, 9);
    }
}
