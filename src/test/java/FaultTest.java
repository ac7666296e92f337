/** Promise 4: where a TEXT can't go on. */
public final class FaultTest {
    private static final int R = Check.REQUEST;
    private static final int T = Check.THING;

    public static void main(String[] args) {
        latest();
        firstLines();
        tooEarly(R, "GET /31/3\nrange: bytes=1-2\nif-none-match: \"1\", \"2\"\ncache-control: a=1, b\nx: y\n\n");
        tooEarly(T, "PUT /31\nlength: 255\nkeys: a b\ncache-control: a=1, b\nx: y\n\n");
        names();
        ranges();
        versions();
        lists();
        things();
        Check.end();
    }

    private static void latest() {
        HeadDesk desk = new HeadDesk();
        Check.due("none was", desk.fault(), HeadDesk.NONE);
        Check.typed(desk, "GEX");
        Check.due("typing is not reading", desk.fault(), HeadDesk.NONE);
        Check.read(desk, R);
        Check.due("fault", desk.fault(), 2);
        Check.due("fault stays", desk.fault(), 2);
        Check.typed(desk, "GET /1\n\n");
        Check.due("fault stays till the next is read", desk.fault(), 2);
        Check.read(desk, R);
        Check.due("good", desk.fault(), HeadDesk.NONE);
    }

    private static void firstLines() {
        Check.bad(R, "", 0);
        Check.bad(T, "", 0);
        Check.bad(R, "\n", 0);
        Check.bad(R, " GET /1\n\n", 0);
        Check.bad(R, "get /1\n\n", 0);
        Check.bad(R, "PUT /1\n\n", 0);
        Check.bad(T, "GET /1\n\n", 0);
        Check.bad(T, "HEAD /1\n\n", 0);
        Check.bad(R, "HEAT /1\n\n", 3);
        Check.bad(R, "HET /1\n\n", 2);
        Check.bad(R, "GETT /1\n\n", 3);
        Check.bad(T, "PUTT /1\n\n", 3);
        Check.bad(T, "PXT /1\n\n", 1);
        Check.bad(R, "GET  /1\n\n", 4);
        Check.bad(R, "GET 1\n\n", 4);
        Check.bad(R, "GET /\n\n", 5);
        Check.bad(R, "GET /a\n\n", 5);
        Check.bad(R, "GET /-1\n\n", 5);
        Check.bad(R, "GET /1 \n\n", 6);
        Check.bad(R, "GET /1/\n\n", 7);
        Check.bad(R, "GET /1/1/1\n\n", 8);
        Check.bad(T, "PUT /1/1\n\n", 6);
        Check.bad(R, "GET /32", 5);
        Check.bad(R, "GET /99!", 5);
        Check.bad(R, "GET /00032\n\n", 5);
        Check.bad(R, "GET /000001\n\n", 10);
        Check.bad(R, "GET /000320\n\n", 5);
        Check.bad(R, "GET /000032\n\n", 10);
        Check.bad(R, "GET /31/4", 8);
        Check.bad(R, "GET /31/00004\n\n", 8);
        Check.bad(R, "GET /31/000001\n\n", 13);
        Check.bad(R, "GET /31/99999999\n\n", 8);
        Check.bad(T, "PUT /32\n\n", 5);
        Check.bad(R, "GET /1\n\n\n", 8);
        Check.bad(R, "GET /1\n\nGET /1\n\n", 8);
        Check.bad(T, "PUT /1\n\n ", 8);
    }

    private static void tooEarly(int kind, String text) {
        for (int length = 0; length < text.length(); length++) {
            Check.bad(kind, text.substring(0, length), length);
        }
        Check.good(kind, text);
    }

    private static void names() {
        String name = "abcdefghijklmnopqrst";
        Check.bad(R, "GET /1\n:\n\n", 7);
        Check.bad(R, "GET /1\n x:\n\n", 7);
        Check.bad(R, "GET /1\nX:\n\n", 7);
        Check.bad(R, "GET /1\nx1:\n\n", 8);
        Check.bad(R, "GET /1\nx :\n\n", 8);
        Check.bad(R, "GET /1\nx\n\n", 8);
        Check.bad(R, "GET /1\n" + name + "!\n\n", 27);
        Check.bad(R, "GET /1\n" + name, 27);
        Check.bad(R, "GET /1\n" + name + "u:\n\n", 7);
        Check.bad(R, "GET /1\n" + name + "u!\n\n", 7);
        Check.bad(R, "GET /1\n" + name + "-", 7);
        Check.bad(T, "PUT /1\na:\n" + name + name + ":\n\n", 10);
        Check.bad(R, "GET /1\na: b\na:", 12);
        Check.bad(R, "GET /1\na: b\na", 13);
        Check.bad(R, "GET /1\na: b\na\n\n", 13);
        Check.bad(R, "GET /1\na: b\na !\n\n", 13);
        Check.bad(R, "GET /1\na:\nb:\nc:\nb:\n\n", 16);
        Check.bad(R, "GET /1\nrange: bytes=1-\nrange: x\n\n", 23);
        Check.bad(T, "PUT /1\nkeys: a\nkeys: i\n\n", 15);
        Check.good(R, "GET /1\na:\nab:\nb:\naa:\n\n");
    }

    private static void ranges() {
        String start = "GET /1\nrange: ";
        int at = start.length();
        Check.bad(R, start + "\n\n", at);
        Check.bad(R, start + " bytes=1-2\n\n", at);
        Check.bad(R, start + "bites=1-2\n\n", at + 1);
        Check.bad(R, start + "bytes 1-2\n\n", at + 5);
        Check.bad(R, start + "bytes=\n\n", at + 6);
        Check.bad(R, start + "bytes=x\n\n", at + 6);
        Check.bad(R, start + "bytes=-\n\n", at + 7);
        Check.bad(R, start + "bytes=--1\n\n", at + 7);
        Check.bad(R, start + "bytes=-1-\n\n", at + 8);
        Check.bad(R, start + "bytes=1\n\n", at + 7);
        Check.bad(R, start + "bytes=1-2-\n\n", at + 9);
        Check.bad(R, start + "bytes=1-x\n\n", at + 8);
        Check.bad(R, start + "bytes=1-2 \n\n", at + 9);
        Check.bad(R, start + "bytes=1-2, 3-4\n\n", at + 9);
        Check.bad(R, start + "bytes=123456-\n\n", at + 11);
        Check.bad(R, start + "bytes=1-123456\n\n", at + 13);
        Check.bad(R, start + "bytes=-123456\n\n", at + 12);
    }

    private static void versions() {
        String start = "GET /1\nif-none-match: ";
        int at = start.length();
        Check.bad(R, start + "\n\n", at);
        Check.bad(R, start + "1\n\n", at);
        Check.bad(R, start + "**\n\n", at + 1);
        Check.bad(R, start + "*, \"1\"\n\n", at + 1);
        Check.bad(R, start + "\"1\", *\n\n", at + 5);
        Check.bad(R, start + "\"\"\n\n", at + 1);
        Check.bad(R, start + "\" 1\"\n\n", at + 1);
        Check.bad(R, start + "\"1 \"\n\n", at + 2);
        Check.bad(R, start + "\"1\",\"2\"\n\n", at + 4);
        Check.bad(R, start + "\"1\",  \"2\"\n\n", at + 5);
        Check.bad(R, start + "\"1\" \"2\"\n\n", at + 3);
        Check.bad(R, start + "\"1\", \n\n", at + 5);
        Check.bad(R, start + "\"123456\"\n\n", at + 6);
        String eight = "\"1\", \"2\", \"3\", \"4\", \"5\", \"6\", \"7\", \"8\"";
        Check.good(R, start + eight + "\n\n");
        Check.bad(R, start + eight + ", \"9\"\n\n", at + eight.length());
        Check.bad(R, start + eight.replace('8', '1') + ", \"1\"\n\n", at + eight.length());
    }

    private static void lists() {
        for (int kind = R; kind <= T; kind++) {
            String start = (kind == R ? "GET" : "PUT") + " /1\ncache-control: ";
            int at = start.length();
            String word = "w".repeat(30);
            Check.bad(kind, start + "\n\n", at);
            Check.bad(kind, start + " a\n\n", at);
            Check.bad(kind, start + "A\n\n", at);
            Check.bad(kind, start + "a1\n\n", at + 1);
            Check.bad(kind, start + "=1\n\n", at);
            Check.bad(kind, start + "a=\n\n", at + 2);
            Check.bad(kind, start + "a=b\n\n", at + 2);
            Check.bad(kind, start + "a=1=2\n\n", at + 3);
            Check.bad(kind, start + "a =1\n\n", at + 1);
            Check.bad(kind, start + "a=123456\n\n", at + 7);
            Check.bad(kind, start + "max-age=123456\n\n", at + 13);
            Check.bad(kind, start + "a,b\n\n", at + 2);
            Check.bad(kind, start + "a,  b\n\n", at + 3);
            Check.bad(kind, start + "a, \n\n", at + 3);
            Check.bad(kind, start + "a,\n\n", at + 2);
            Check.bad(kind, start + "a \n\n", at + 1);
            Check.bad(kind, start + word + "w\n\n", at);
            Check.bad(kind, start + word + "w!\n\n", at);
            Check.bad(kind, start + word + "-", at);
            Check.bad(kind, start + word + "!", at + 30);
            Check.bad(kind, start + "a, " + word + word + "\n\n", at + 3);
        }
    }

    private static void things() {
        Check.bad(T, "PUT /1\nlength: \n\n", 15);
        Check.bad(T, "PUT /1\nlength:  1\n\n", 15);
        Check.bad(T, "PUT /1\nlength: 256", 15);
        Check.bad(T, "PUT /1\nlength: 00256\n\n", 15);
        Check.bad(T, "PUT /1\nlength: 999999\n\n", 15);
        Check.bad(T, "PUT /1\nlength: 000001\n\n", 20);
        Check.bad(T, "PUT /1\nlength: 002560\n\n", 15);
        Check.bad(T, "PUT /1\nlength: 1 \n\n", 16);
        Check.bad(T, "PUT /1\nkeys: \n\n", 13);
        Check.bad(T, "PUT /1\nkeys:  a\n\n", 13);
        Check.bad(T, "PUT /1\nkeys: i\n\n", 13);
        Check.bad(T, "PUT /1\nkeys: A\n\n", 13);
        Check.bad(T, "PUT /1\nkeys: ab\n\n", 14);
        Check.bad(T, "PUT /1\nkeys: a \n\n", 15);
        Check.bad(T, "PUT /1\nkeys: a, b\n\n", 14);
        Check.bad(T, "PUT /1\nkeys: a b c d e f g h a\n\n", 28);
        Check.bad(T, "PUT /1\nkeys: a a a a a a a a \n\n", 28);
    }
}
