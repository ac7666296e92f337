/** A TEXT of each kind that has all that counts, a plain one, and what told answers of them. */
final class Full {
    static final String REQUEST = "HEAD /31/3\nrange: bytes=2-9\nif-none-match: \"4\", \"7\", \"4\"\n"
        + "cache-control: no-cache, only-if-cached, max-age=11, max-stale=12, min-fresh=13\n\n";
    static final String THING = "PUT /30\nlength: 255\nkeys: a c h\n"
        + "cache-control: no-cache, no-store, max-age=21, stale-if-error=22, stale-while-revalidate=23\n\n";
    static final String PLAIN = "GET /0\n\n";
    static final int[] TOLD_OF_REQUEST = {2, 31, 3, 1, 2, 9, 0, 2, 0, 0, 1, 1, 11, 12, 13, 0, -1, -1};
    static final int[] TOLD_OF_THING = {3, 30, 0, 0, -1, -1, 0, 0, 255, 133, 1, 0, 21, -1, -1, 1, 22, 23};
    static final int[] TOLD_OF_PLAIN = {1, 0, 0, 0, -1, -1, 0, 0, 0, 0, 0, 0, -1, -1, -1, 0, -1, -1};

    private Full() {
    }

    static void told(String call, HeadDesk desk, int[] due) {
        for (int what = 0; what < due.length; what++) {
            Check.due(call + ": told(" + what + ")", desk.told(what), due[what]);
        }
    }
}
