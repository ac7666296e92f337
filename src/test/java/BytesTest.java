/** Promise 7: which bytes of a thing the latest good TEXT wants. */
public final class BytesTest {
    private static final int NONE = HeadDesk.NONE;

    public static void main(String[] args) {
        wants("", 9, 0, 8, 9);
        wants("", 255, 0, 254, 255);
        wants("", 1, 0, 0, 1);
        wants("", 0, NONE, NONE, 0);
        wants("range: bytes=2-4\n", 9, 2, 4, 3);
        wants("range: bytes=2-4\n", 5, 2, 4, 3);
        wants("range: bytes=2-4\n", 4, 2, 3, 2);
        wants("range: bytes=2-4\n", 3, 2, 2, 1);
        wants("range: bytes=2-4\n", 2, NONE, NONE, 0);
        wants("range: bytes=0-0\n", 0, NONE, NONE, 0);
        wants("range: bytes=0-0\n", 1, 0, 0, 1);
        wants("range: bytes=0-99999\n", 255, 0, 254, 255);
        wants("range: bytes=99998-99999\n", 255, NONE, NONE, 0);
        wants("range: bytes=5-\n", 9, 5, 8, 4);
        wants("range: bytes=8-\n", 9, 8, 8, 1);
        wants("range: bytes=9-\n", 9, NONE, NONE, 0);
        wants("range: bytes=-3\n", 9, 6, 8, 3);
        wants("range: bytes=-9\n", 9, 0, 8, 9);
        wants("range: bytes=-99999\n", 9, 0, 8, 9);
        wants("range: bytes=-0\n", 9, NONE, NONE, 0);
        wants("range: bytes=-3\n", 0, NONE, NONE, 0);
        wants("range: bytes=5-4\n", 9, 0, 8, 9);
        thing();
        wrongOnes();
        Check.end();
    }

    private static void wants(String line, int length, int first, int last, int many) {
        String[] words = {"GET", "HEAD"};
        for (String word : words) {
            HeadDesk desk = Check.having(Check.REQUEST, word + " /1\n" + line + "\n");
            String call = Check.shown(line) + " bytes(" + length + ", ";
            Check.due(call + "0)", desk.bytes(length, 0), first);
            Check.due(call + "1)", desk.bytes(length, 1), last);
            Check.due(call + "2)", desk.bytes(length, 2), many);
        }
    }

    private static void thing() {
        HeadDesk desk = Check.having(Check.THING, "PUT /1\nlength: 3\nrange: bytes=1-2\n\n");
        Check.due("a THING: first", desk.bytes(9, 0), 0);
        Check.due("a THING: last", desk.bytes(9, 1), 8);
        Check.due("a THING: how many", desk.bytes(9, 2), 9);
    }

    private static void wrongOnes() {
        HeadDesk desk = Check.having(Check.REQUEST, "GET /1\n\n");
        int[] lengths = {-1, 256, Integer.MIN_VALUE, Integer.MAX_VALUE};
        for (int length : lengths) {
            for (int what = 0; what <= 2; what++) {
                Check.due("bytes(" + length + ", " + what + ")", desk.bytes(length, what), NONE);
            }
        }
        int[] whats = {-1, 3, Integer.MIN_VALUE, Integer.MAX_VALUE};
        for (int what : whats) {
            Check.due("bytes(9, " + what + ")", desk.bytes(9, what), NONE);
            Check.due("bytes(0, " + what + ")", desk.bytes(0, what), NONE);
        }
    }
}
