/** Promise 3: what read counts, empties and leaves; and which TEXTS are good. */
public final class ReadTest {
    public static void main(String[] args) {
        counting();
        wrongKinds();
        whatStays();
        goodRequests();
        goodThings();
        Check.end();
    }

    private static void counting() {
        HeadDesk desk = new HeadDesk();
        Check.typed(desk, "GET /1\n\n");
        Check.due("first", Check.read(desk, Check.REQUEST), 1);
        Check.due("the tape is empty", Check.read(desk, Check.REQUEST), Check.THROWN);
        Check.typed(desk, "PUT /2\n\n");
        Check.due("second", Check.read(desk, Check.THING), 2);
        Check.typed(desk, "GET");
        Check.due("none", Check.read(desk, Check.REQUEST), Check.THROWN);
        Check.typed(desk, "HEAD /3\n\n");
        Check.due("third, on a tape emptied by none", Check.read(desk, Check.REQUEST), 3);
    }

    private static void wrongKinds() {
        int[] wrong = {2, -1, 3, Integer.MIN_VALUE, Integer.MAX_VALUE};
        for (int kind : wrong) {
            HeadDesk desk = new HeadDesk();
            Check.typed(desk, "GOT");
            Check.read(desk, Check.REQUEST);
            Check.typed(desk, "GET /7\n\n");
            Check.due("read(" + kind + ")", Check.read(desk, kind), Check.THROWN);
            Check.due("fault stays", desk.fault(), 1);
            Check.due("told stays", desk.told(0), HeadDesk.NONE);
            Check.due("the tape stays", Check.read(desk, Check.REQUEST), 1);
            Check.due("read(" + kind + ")", Check.read(desk, kind), Check.THROWN);
            Check.due("told stays", desk.told(1), 7);
            Check.due("fault stays", desk.fault(), HeadDesk.NONE);
        }
    }

    private static void whatStays() {
        HeadDesk desk = Check.having(Check.REQUEST,
            "GET /9/2\nrange: bytes=3-5\nif-none-match: \"4\", \"5\"\ncache-control: max-age=6\n\n");
        String spoilt = "HEAD /8/1\nrange: bytes=1-2\nif-none-match: \"9\", \"8\", \"7\"\n"
            + "cache-control: max-age=1, no-cache, min-fresh=2\n!";
        for (int i = 0; i < 3; i++) {
            Check.typed(desk, spoilt);
            Check.due("none", Check.read(desk, Check.REQUEST), Check.THROWN);
            Check.due("fault", desk.fault(), spoilt.length() - 1);
            int[] due = {1, 9, 2, 1, 3, 5, 0, 2, 0, 0, 0, 0, 6, -1, -1, 0, -1, -1};
            for (int what = 0; what < due.length; what++) {
                Check.due("told(" + what + ")", desk.told(what), due[what]);
            }
            Check.due("matches(4)", desk.matches(4), true);
            Check.due("matches(9)", desk.matches(9), false);
            Check.due("bytes(9, 2)", desk.bytes(9, 2), 3);
        }
        Check.typed(desk, "GET /0\n\n");
        Check.due("second", Check.read(desk, Check.REQUEST), 2);
        Check.due("nothing of an older TEXT", desk.told(12), HeadDesk.NONE);
        Check.due("nothing of an older TEXT", desk.told(7), 0);
        Check.due("nothing of an older TEXT", desk.matches(4), false);
    }

    private static void goodRequests() {
        Check.good(Check.REQUEST, "GET /0\n\n");
        Check.good(Check.REQUEST, "HEAD /31/3\n\n");
        Check.good(Check.REQUEST, "GET /00031/00003\n\n");
        Check.good(Check.REQUEST, "GET /1\na:\n\n");
        Check.good(Check.REQUEST, "GET /1\na: \n\n");
        Check.good(Check.REQUEST, "GET /1\na:  ~ : \"}\n\n");
        Check.good(Check.REQUEST, "GET /1\n-:x\n--:y\nabcdefghijklmnopqrst:z\n\n");
        Check.good(Check.REQUEST, "GET /1\nlength: 256\nkeys: i\n\n");
        Check.good(Check.REQUEST, "GET /1\nrange:bytes=1-\nif-none-match:*\ncache-control:a\n\n");
        Check.good(Check.REQUEST, "GET /1\nrange: bytes=00000-99999\n\n");
        Check.good(Check.REQUEST, "GET /1\nif-none-match: \"99999\", \"0\"\n\n");
        Check.good(Check.REQUEST, "GET /1\ncache-control: -, a=99999, a, " + "w".repeat(30) + "=0\n\n");
    }

    private static void goodThings() {
        Check.good(Check.THING, "PUT /0\n\n");
        Check.good(Check.THING, "PUT /31\nlength: 255\n\n");
        Check.good(Check.THING, "PUT /1\nlength:00000\nkeys:a\n\n");
        Check.good(Check.THING, "PUT /1\nkeys: a b c d e f g h\n\n");
        Check.good(Check.THING, "PUT /1\nkeys: h h h h h h h h\n\n");
        Check.good(Check.THING, "PUT /1\nrange: what\nif-none-match:\n\n");
        StringBuilder many = new StringBuilder("PUT /1\n");
        for (char a = 'a'; a <= 'z'; a++) {
            many.append(a).append(":\n");
        }
        for (char a = 'a'; a <= 'z'; a++) {
            many.append(a).append("-:\n");
        }
        Check.good(Check.THING, many + "length:1\n\n");
    }
}
