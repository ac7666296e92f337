/** The edges of promise 7 (bytes), sentence by sentence. */
public final class BytesEdgesTest {
    private static final int NONE = HeadDesk.NONE;
    private static final int R = Check.REQUEST;
    private static final int T = Check.THING;
    private static final int[] LENGTHS = {0, 1, 2, 9, 127, 128, 254, 255};

    public static void main(String[] args) {
        allWithoutRange();
        ofAThingAll();
        fromTo();
        fromOn();
        theLastOnes();
        anotherLength();
        anotherWhat();
        ifThereIsNone();
        Check.end();
    }

    /** A last byte that is ahead of the first one stands for no bytes. */
    private static void wants(HeadDesk desk, int length, int first, int last) {
        int many = Math.max(0, last - first + 1);
        String call = "range " + desk.told(3) + " " + desk.told(4) + " " + desk.told(5) + ": bytes(" + length;
        Check.due(call + ", 0)", desk.bytes(length, 0), many == 0 ? NONE : first);
        Check.due(call + ", 1)", desk.bytes(length, 1), many == 0 ? NONE : last);
        Check.due(call + ", 2)", desk.bytes(length, 2), many);
    }

    private static HeadDesk wanting(String range) {
        return Check.having(R, "GET /1\nrange: bytes=" + range + "\n\n");
    }

    private static void allWithoutRange() {
        Check.sentence("Of a thing of so many bytes (0 .. 255) all, without range");
        HeadDesk without = Check.having(R, "GET /1\n\n");
        HeadDesk head = Check.having(R, "HEAD /1\n\n");
        HeadDesk backwards = wanting("2-1");
        for (int length : LENGTHS) {
            wants(without, length, 0, length - 1);
            wants(head, length, 0, length - 1);
            wants(backwards, length, 0, length - 1);
        }
    }

    private static void ofAThingAll() {
        Check.sentence("a THING all");
        HeadDesk thing = Check.having(T, "PUT /1\nlength: 3\nrange: bytes=1-2\n\n");
        for (int length : LENGTHS) {
            wants(thing, length, 0, length - 1);
        }
        HeadDesk desk = wanting("2-3");
        wants(desk, 9, 2, 3);
        Check.typed(desk, "PUT /1\n\n");
        Check.due("read", Check.read(desk, T), 2);
        wants(desk, 9, 0, 8);
    }

    private static void fromTo() {
        Check.sentence("what 0: the first byte, 1: the last one (NONE if there is none), 2: how many; of A-B");
        for (int length : LENGTHS) {
            for (int from = Math.max(0, length - 3); from <= length + 2; from++) {
                for (int to = from; to <= length + 2; to++) {
                    wants(wanting(from + "-" + to), length, from, Math.min(to, length - 1));
                }
            }
            wants(wanting("0-0"), length, 0, Math.min(0, length - 1));
            wants(wanting("0-99999"), length, 0, length - 1);
            wants(wanting("99999-99999"), length, 0, -1);
        }
    }

    private static void fromOn() {
        Check.sentence("what 0: the first byte, 1: the last one (NONE if there is none), 2: how many; of A-");
        for (int length : LENGTHS) {
            for (int from = Math.max(0, length - 3); from <= length + 2; from++) {
                wants(wanting(from + "-"), length, from, length - 1);
            }
            wants(wanting("0-"), length, 0, length - 1);
            wants(wanting("99999-"), length, 0, -1);
        }
    }

    private static void theLastOnes() {
        Check.sentence("-N: the last N, or all");
        for (int length : LENGTHS) {
            for (int last = Math.max(0, length - 3); last <= length; last++) {
                wants(wanting("-" + last), length, length - last, length - 1);
            }
            wants(wanting("-0"), length, 0, -1);
            wants(wanting("-1"), length, Math.max(0, length - 1), length - 1);
            int[] beyond = {length + 1, length + 2, 256, 99999};
            for (int last : beyond) {
                wants(wanting("-" + last), length, 0, length - 1);
            }
        }
    }

    private static HeadDesk[] allSorts() {
        return new HeadDesk[] {Check.having(R, "GET /1\n\n"), wanting("0-0"), wanting("5-"), wanting("-5"),
            wanting("99999-"), wanting("-99999"), Check.having(T, Full.THING)};
    }

    private static void anotherLength() {
        Check.sentence("NONE for another length");
        int[] others = {-1, 256, -2, 257, 511, -255, 65536, Integer.MIN_VALUE, Integer.MAX_VALUE};
        for (HeadDesk desk : allSorts()) {
            for (int length : others) {
                for (int what = -1; what <= 3; what++) {
                    Check.due("bytes(" + length + ", " + what + ")", desk.bytes(length, what), NONE);
                }
            }
        }
        HeadDesk all = Check.having(R, "GET /1\n\n");
        Check.due("bytes(0, 2)", all.bytes(0, 2), 0);
        Check.due("bytes(255, 2)", all.bytes(255, 2), 255);
    }

    private static void anotherWhat() {
        Check.sentence("NONE for another what");
        int[] others = {-1, 3, -2, 4, 256, 258, Integer.MIN_VALUE, Integer.MAX_VALUE};
        for (HeadDesk desk : allSorts()) {
            for (int length : LENGTHS) {
                for (int what : others) {
                    Check.due("bytes(" + length + ", " + what + ")", desk.bytes(length, what), NONE);
                }
            }
        }
    }

    private static void ifThereIsNone() {
        Check.sentence("NONE if there is no good TEXT");
        HeadDesk desk = new HeadDesk();
        Check.typed(desk, "GET /1\nrange: bytes=1-2\n");
        for (int what = 0; what <= 2; what++) {
            Check.due("bytes(9, " + what + ")", desk.bytes(9, what), NONE);
            Check.due("bytes(0, " + what + ")", desk.bytes(0, what), NONE);
        }
        Check.read(desk, R);
        for (int what = 0; what <= 2; what++) {
            Check.due("behind none, bytes(9, " + what + ")", desk.bytes(9, what), NONE);
        }
        Check.typed(desk, "GET /1\nrange: bytes=1-2\n\n");
        Check.due("read", Check.read(desk, R), 1);
        wants(desk, 9, 1, 2);
    }
}
