import java.util.Random;

/**
 * Many made texts, good and spoilt, read by the class and by the model. The seed is fixed, so that
 * every run reads the same ones.
 */
public final class ModelTest {
    private static final int ROUNDS = 1500;
    private static final int READS_OF_ONE_OBJECT = 6;
    private static final String MARKS = "\n\n  //::--==,,**\"\"019abhizAGHP~!";

    private static final Random RANDOM = new Random(20261115);

    private static int goodOnes = 0;
    private static int spoiltOnes = 0;

    public static void main(String[] args) {
        for (int round = 0; round < ROUNDS; round++) {
            HeadDesk desk = new HeadDesk();
            Model model = new Model();
            for (int i = 0; i < READS_OF_ONE_OBJECT; i++) {
                compare(desk, model);
            }
        }
        // Both sorts must be there in number, or the comparison says little.
        Check.due("many good ones", goodOnes > ROUNDS, true);
        Check.due("many spoilt ones", spoiltOnes > ROUNDS, true);
        Check.end();
    }

    private static void compare(HeadDesk desk, Model model) {
        int kind = RANDOM.nextInt(2);
        String text = made(kind);
        for (int i = RANDOM.nextInt(3); i > 0; i--) {
            text = spoilt(text);
        }
        text = text.substring(0, Math.min(text.length(), 300));
        String name = Check.shown(text) + " as " + kind + ": ";
        Check.due(name + "typing", Check.typed(desk, text), true);
        boolean good = model.read(kind, text);
        if (good) {
            goodOnes++;
        } else {
            spoiltOnes++;
        }
        Check.due(name + "read", Check.read(desk, kind), good ? model.goodTexts : Check.THROWN);
        Check.due(name + "fault", desk.fault(), model.fault);
        for (int what = -1; what <= 18; what++) {
            Check.due(name + "told(" + what + ")", desk.told(what), model.told(what));
        }
        for (int version = -1; version <= 20; version++) {
            Check.due(name + "matches(" + version + ")", desk.matches(version), model.matches(version));
        }
        int[] lengths = {-1, 0, 1, 2, 3, 7, 100, 255, 256};
        for (int length : lengths) {
            for (int what = -1; what <= 3; what++) {
                String call = name + "bytes(" + length + ", " + what + ")";
                Check.due(call, desk.bytes(length, what), model.bytes(length, what));
            }
        }
    }

    private static String made(int kind) {
        StringBuilder text = new StringBuilder();
        text.append(kind == 1 ? "PUT" : one("GET", "HEAD")).append(" /").append(number(33));
        if (kind == 0 && RANDOM.nextBoolean()) {
            text.append('/').append(number(4));
        }
        text.append('\n');
        for (int i = RANDOM.nextInt(5); i > 0; i--) {
            String name = one("range", "if-none-match", "cache-control", "length", "keys", other());
            text.append(name).append(one(":", ": ")).append(value(name)).append('\n');
        }
        return text.append('\n').toString();
    }

    private static String value(String name) {
        switch (name) {
            case "range":
                return "bytes=" + one(number(9) + "-" + number(9), number(9) + "-", "-" + number(9));
            case "if-none-match":
                return RANDOM.nextInt(4) == 0 ? "*" : row(", ", 1, 9);
            case "cache-control":
                return row(", ", 2, 6);
            case "length":
                return number(257);
            case "keys":
                return row(" ", 3, 9);
            default:
                return one("", " ", "x: \"y\"", "a, b");
        }
    }

    private static String row(String between, int sort, int most) {
        StringBuilder row = new StringBuilder();
        int many = 1 + RANDOM.nextInt(RANDOM.nextInt(most) + 1);
        for (int i = 0; i < many; i++) {
            row.append(i == 0 ? "" : between);
            row.append(sort == 1 ? '"' + number(20) + '"' : sort == 2 ? word() : key());
        }
        return row.toString();
    }

    private static String word() {
        String word = one("no-cache", "only-if-cached", "max-age", "max-stale", "min-fresh", "no-store",
            "stale-if-error", "stale-while-revalidate", "x", "w".repeat(29 + RANDOM.nextInt(3)));
        return word + (RANDOM.nextBoolean() ? "" : "=" + number(30));
    }

    private static String other() {
        return one("a", "b", "accept", "rang", "n".repeat(19 + RANDOM.nextInt(3)));
    }

    private static String key() {
        return String.valueOf((char) ('a' + RANDOM.nextInt(8)));
    }

    private static String number(int most) {
        int digits = RANDOM.nextInt(12);
        if (digits == 0) {
            return String.valueOf(90000 + RANDOM.nextInt(20000));
        }
        String number = String.valueOf(RANDOM.nextInt(most));
        return digits > 6 ? number : "0".repeat(Math.max(0, digits - number.length())) + number;
    }

    private static String one(String... of) {
        return of[RANDOM.nextInt(of.length)];
    }

    private static String spoilt(String text) {
        int at = RANDOM.nextInt(text.length() + 1);
        String head = text.substring(0, at);
        String tail = text.substring(at);
        char mark = MARKS.charAt(RANDOM.nextInt(MARKS.length()));
        switch (RANDOM.nextInt(4)) {
            case 0:
                return head + mark + tail;
            case 1:
                return head + (tail.isEmpty() ? "" : tail.substring(1));
            case 2:
                return head + mark + (tail.isEmpty() ? "" : tail.substring(1));
            default:
                return head.isEmpty() ? text : head;
        }
    }
}
