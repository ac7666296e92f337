/** Promise 2: what the tape takes, in which order, and what it refuses. */
public final class TypeTest {
    public static void main(String[] args) {
        order();
        wrongCounts();
        wrongBytes();
        fullTape();
        Check.end();
    }

    private static void order() {
        HeadDesk desk = new HeadDesk();
        Check.due("the highest first", desk.type(0x474554202F310A0AL, 8), true);
        Check.due("read", Check.read(desk, Check.REQUEST), 1);

        // What stands above the n lowest bytes is not looked at.
        Check.due("n 3", desk.type(0xFFFF000000474554L, 3), true);
        Check.due("n 1", desk.type(0xFFFFFFFFFFFFFF20L, 1), true);
        Check.due("n 4", desk.type(0x7F000000_2F390A0AL, 4), true);
        Check.due("read", Check.read(desk, Check.REQUEST), 2);
        Check.due("told(1)", desk.told(1), 9);
    }

    private static void wrongCounts() {
        HeadDesk desk = new HeadDesk();
        int[] wrong = {0, -1, 9, 16, Integer.MIN_VALUE, Integer.MAX_VALUE};
        for (int n : wrong) {
            Check.due("type(.., " + n + ")", desk.type(0x4141414141414141L, n), false);
        }
        Check.due("GET /1", Check.typed(desk, "GET /1\n\n"), true);
        Check.due("nothing was changed", Check.read(desk, Check.REQUEST), 1);
    }

    private static void wrongBytes() {
        for (int mark = 0; mark <= 255; mark++) {
            boolean mayStand = mark == 10 || mark >= 32 && mark <= 126;
            Check.due("type(" + mark + ", 1)", new HeadDesk().type(mark, 1), mayStand);
            HeadDesk desk = new HeadDesk();
            for (int at = 0; at < 8; at++) {
                long word = 0x4747474747474747L & ~(255L << 8 * at) | (long) mark << 8 * at;
                Check.due("byte " + at + " is " + mark, desk.type(word, 8), mayStand);
            }
            if (!mayStand) {
                Check.due("the empty tape", Check.read(desk, Check.REQUEST), Check.THROWN);
                Check.due("nothing was changed by " + mark, desk.fault(), 0);
            }
        }
    }

    private static void fullTape() {
        HeadDesk desk = new HeadDesk();
        String start = "GET /1\nx:";
        Check.due("299", Check.typed(desk, start + "y".repeat(298 - start.length()) + "\n"), true);
        Check.due("301", desk.type(0x0A0AL, 2), false);
        Check.due("307", desk.type(0x0A0A0A0A0A0A0A0AL, 8), false);
        Check.due("300", desk.type(10, 1), true);
        Check.due("301", desk.type(10, 1), false);
        Check.due("read", Check.read(desk, Check.REQUEST), 1);
        Check.due("room again", Check.typed(desk, "y".repeat(300)), true);
        Check.due("301", desk.type(10, 1), false);
    }
}
