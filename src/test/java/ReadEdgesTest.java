/** The edges of the promises 1 (a new object) and 3 (read), and of an object's calls, sentence by sentence. */
public final class ReadEdgesTest {
    private static final int NONE = HeadDesk.NONE;
    private static final int R = Check.REQUEST;
    private static final int T = Check.THING;
    private static final int[] OTHER_KINDS = {2, -1, 3, -2, 256, 257, -256, Integer.MIN_VALUE, Integer.MAX_VALUE};

    public static void main(String[] args) {
        aNewObject();
        refusedByANewObject();
        howManyGoodTexts();
        theTapeIsEmptyThen();
        anotherKindChangesNothing();
        whatWasToldStays();
        fiveHundredAndTwelveCalls();
        Check.end();
    }

    /** As an object answers that has read no good TEXT. */
    private static void nothingTold(String call, HeadDesk desk) {
        for (int what = -1; what <= 18; what++) {
            Check.due(call + ": told(" + what + ")", desk.told(what), NONE);
        }
        int[] versions = {0, 1, -1, 99999, Integer.MIN_VALUE, Integer.MAX_VALUE};
        for (int version : versions) {
            Check.due(call + ": matches(" + version + ")", desk.matches(version), false);
        }
        int[] lengths = {-1, 0, 1, 255, 256};
        for (int length : lengths) {
            for (int what = -1; what <= 3; what++) {
                Check.due(call + ": bytes(" + length + ", " + what + ")", desk.bytes(length, what), NONE);
            }
        }
    }

    private static void aNewObject() {
        Check.sentence("makes an object in the state that the terms give");
        nothingTold("new", new HeadDesk());
        Check.due("fault()", new HeadDesk().fault(), NONE);
        Check.due("NONE", HeadDesk.NONE, -1);
        HeadDesk empty = new HeadDesk();
        Check.due("its tape is empty", Check.read(empty, R), Check.THROWN);
        Check.due("its tape is empty", empty.fault(), 0);
        HeadDesk roomy = new HeadDesk();
        Check.due("room for 300", Check.typed(roomy, "y".repeat(300)), true);
        Check.due("and no more", roomy.type('y', 1), false);
        HeadDesk used = Check.having(R, Full.REQUEST);
        Check.due("typing", Check.typed(used, "GET"), true);
        nothingTold("new, beside a used one", new HeadDesk());
        Full.told("used, beside a new one", used, Full.TOLD_OF_REQUEST);
    }

    private static void refusedByANewObject() {
        Check.sentence("a new object, behind calls that are refused");
        HeadDesk desk = new HeadDesk();
        Check.due("type", desk.type('y', 0), false);
        Check.due("type", desk.type(0, 1), false);
        Check.due("another kind", Check.read(desk, 2), Check.THROWN);
        Check.due("fault()", desk.fault(), NONE);
        Check.due("none", Check.read(desk, T), Check.THROWN);
        Check.due("fault()", desk.fault(), 0);
        nothingTold("behind none", desk);
        Check.typed(desk, Full.PLAIN);
        Check.due("the first good one", Check.read(desk, R), 1);
        Full.told("plain", desk, Full.TOLD_OF_PLAIN);
    }

    private static void howManyGoodTexts() {
        Check.sentence("read as a REQUEST (kind 0) or THING (kind 1): how many good TEXTS there have been");
        HeadDesk desk = new HeadDesk();
        for (int good = 1; good <= 40; good++) {
            Check.typed(desk, good % 3 == 0 ? "PUT /1\n\n" : "GET /1\n\n");
            Check.due("good one " + good, Check.read(desk, good % 3 == 0 ? T : R), good);
            Check.typed(desk, good % 2 == 0 ? "GET /1\n" : "PUT /1\n\n\n");
            Check.due("none", Check.read(desk, good % 2 == 0 ? R : T), Check.THROWN);
            Check.due("another kind", Check.read(desk, 2), Check.THROWN);
        }
        Check.bad(R, "PUT /1\n\n", 0);
        Check.bad(T, "GET /1\n\n", 0);
    }

    private static void theTapeIsEmptyThen() {
        Check.sentence("The tape (which is empty then) is read");
        String[] first = {"GET /1\n\n", "GET /1\n\n!", "GET /1\n", "!", "", "G"};
        for (String text : first) {
            HeadDesk desk = new HeadDesk();
            Check.typed(desk, text);
            Check.read(desk, R);
            Check.due("nothing is left of " + Check.shown(text), Check.read(desk, R), Check.THROWN);
            Check.due("nothing is left of " + Check.shown(text), desk.fault(), 0);
            Check.typed(desk, "PUT /1\n\n");
            int good = text.equals(first[0]) ? 2 : 1;
            Check.due("read behind " + Check.shown(text), Check.read(desk, T), good);
        }
        // A shorter TEXT than the one before must not see what the tape held.
        HeadDesk desk = new HeadDesk();
        Check.typed(desk, "GET /1\nx: y\n\n");
        Check.due("the longer one", Check.read(desk, R), 1);
        Check.typed(desk, "GET /1\nx: y\n");
        Check.due("the shorter one", Check.read(desk, R), Check.THROWN);
        Check.due("the shorter one", desk.fault(), 12);
    }

    private static void anotherKindChangesNothing() {
        Check.sentence("IllegalArgumentException: another kind (nothing changes, the tape stays, too)");
        for (int kind : OTHER_KINDS) {
            HeadDesk desk = Check.having(R, Full.REQUEST);
            Check.typed(desk, "GE!");
            Check.read(desk, R);
            String before = Check.answers(desk);
            Check.due("read(" + kind + "), empty tape", Check.read(desk, kind), Check.THROWN);
            Check.typed(desk, "PUT");
            Check.due("read(" + kind + "), half of a TEXT", Check.read(desk, kind), Check.THROWN);
            Check.typed(desk, " /5\n\n");
            Check.due("read(" + kind + "), a TEXT", Check.read(desk, kind), Check.THROWN);
            Check.due("read(" + kind + "), again", Check.read(desk, kind), Check.THROWN);
            Check.due("fault()", desk.fault(), 2);
            Check.same("behind read(" + kind + ")", Check.answers(desk), before);
            Check.due("the tape stays", Check.read(desk, T), 2);
            Check.due("told(1)", desk.told(1), 5);
        }
    }

    private static void whatWasToldStays() {
        Check.sentence("IllegalArgumentException: it is none (what was told before stays)");
        stays(R, Full.REQUEST);
        stays(T, Full.THING);
        stays(R, "GET /1\nif-none-match: *\nrange: bytes=-3\n\n");
    }

    private static void stays(int kind, String good) {
        String[] spoilt = {
            "GET /1/1\nrange: bytes=1-\nif-none-match: \"1\", \"2\", \"3\"\ncache-control: max-stale, min-fresh=1\n",
            "PUT /2\nlength: 7\nkeys: b d\ncache-control: max-age=1, no-store, stale-if-error=2\n",
            "GET /3\nif-none-match: *\n"};
        int[] spoiltKinds = {R, T, R};
        for (int i = 0; i < spoilt.length; i++) {
            String name = Check.shown(spoilt[i]);
            HeadDesk desk = Check.having(kind, good);
            String before = Check.answers(desk);
            Check.typed(desk, spoilt[i]);
            Check.due("none, once", Check.read(desk, spoiltKinds[i]), Check.THROWN);
            Check.due("fault()", desk.fault(), spoilt[i].length());
            Check.same("told before " + name, Check.answers(desk), before);
            Check.typed(desk, spoilt[i] + "\n\n");
            Check.due("none, twice", Check.read(desk, spoiltKinds[i]), Check.THROWN);
            Check.due("fault()", desk.fault(), spoilt[i].length() + 1);
            Check.same("told before " + name, Check.answers(desk), before);
            Check.typed(desk, Full.PLAIN);
            Check.due("a good one", Check.read(desk, R), 2);
            Full.told("nothing of " + name, desk, Full.TOLD_OF_PLAIN);
        }
    }

    private static void fiveHundredAndTwelveCalls() {
        Check.sentence("An object is used for at most 512 calls");
        HeadDesk reading = new HeadDesk();
        for (int good = 1; good <= 256; good++) {
            Check.due("typing", Check.typed(reading, good % 2 == 0 ? "PUT /2\n\n" : "GET /1\n\n"), true);
            Check.due("call " + 2 * good, Check.read(reading, good % 2 == 0 ? T : R), good);
        }
        HeadDesk failing = new HeadDesk();
        for (int call = 1; call <= 511; call++) {
            Check.due("call " + call, Check.read(failing, R), Check.THROWN);
        }
        Check.due("call 512", failing.fault(), 0);
        HeadDesk typing = new HeadDesk();
        for (int call = 1; call <= 512; call++) {
            Check.due("call " + call, typing.type('y', 1), call <= 300);
        }
        // Five calls are made by typing and reading.
        HeadDesk asking = Check.having(R, "GET /1\nif-none-match: \"9\"\n\n");
        for (int call = 6; call <= 512; call++) {
            Check.due("call " + call, asking.matches(call), call == 9);
        }
    }
}
