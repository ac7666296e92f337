/** The edges of the promises 5 (told) and 6 (matches), sentence by sentence. */
public final class ToldEdgesTest {
    private static final int NONE = HeadDesk.NONE;
    private static final int R = Check.REQUEST;
    private static final int T = Check.THING;

    public static void main(String[] args) {
        ofTheLatest();
        anotherWhat();
        ifThereIsNone();
        noneIfItIsNotThere();
        differentNumbers();
        matchesThisNumber();
        matchesAllWithAStar();
        matchesOfTheLatest();
        Check.end();
    }

    private static void ofTheLatest() {
        Check.sentence("Of the latest good TEXT. What does not count for its kind is as if not there");
        HeadDesk desk = Check.having(R, Full.REQUEST);
        Full.told("a full REQUEST", desk, Full.TOLD_OF_REQUEST);
        Check.typed(desk, Full.THING);
        Check.due("read", Check.read(desk, T), 2);
        Full.told("a full THING behind a full REQUEST", desk, Full.TOLD_OF_THING);
        Check.typed(desk, Full.REQUEST);
        Check.due("read", Check.read(desk, R), 3);
        Full.told("a full REQUEST behind a full THING", desk, Full.TOLD_OF_REQUEST);
        Check.typed(desk, Full.PLAIN);
        Check.due("read", Check.read(desk, R), 4);
        Full.told("a plain REQUEST", desk, Full.TOLD_OF_PLAIN);
        Check.typed(desk, "GET /1\nif-none-match: *\n\n");
        Check.due("read", Check.read(desk, R), 5);
        Check.due("told(6) of *", desk.told(6), 1);
        Check.typed(desk, "GET /0\nif-none-match: \"1\"\n\n");
        Check.due("read", Check.read(desk, R), 6);
        Check.due("told(6) of a NUMBER", desk.told(6), 0);
        Check.due("told(7) of a NUMBER", desk.told(7), 1);
    }

    private static void anotherWhat() {
        Check.sentence("NONE for another what");
        HeadDesk request = Check.having(R, Full.REQUEST);
        HeadDesk thing = Check.having(T, Full.THING);
        int[] others = {-1, 18, -2, 19, 32, 256, 273, -256, 65536, Integer.MIN_VALUE, Integer.MAX_VALUE};
        for (int what : others) {
            Check.due("told(" + what + ")", request.told(what), NONE);
            Check.due("told(" + what + ")", thing.told(what), NONE);
        }
        Check.due("told(0)", request.told(0), 2);
        Check.due("told(1)", request.told(1), 31);
        Check.due("told(16)", thing.told(16), 22);
        Check.due("told(17)", thing.told(17), 23);
    }

    private static void ifThereIsNone() {
        Check.sentence("NONE if there is none");
        HeadDesk desk = new HeadDesk();
        Check.typed(desk, Full.REQUEST);
        Check.due("told(0), not yet read", desk.told(0), NONE);
        Check.due("read as a THING", Check.read(desk, T), Check.THROWN);
        for (int what = 0; what <= 17; what++) {
            Check.due("told(" + what + ")", desk.told(what), NONE);
        }
        Check.typed(desk, Full.REQUEST);
        Check.due("read", Check.read(desk, R), 1);
        Full.told("now there is one", desk, Full.TOLD_OF_REQUEST);
    }

    private static void noneIfItIsNotThere() {
        Check.sentence("12 to 17 but 15: NONE if it is not there");
        String[] words = {"max-age", "max-stale", "min-fresh", "", "stale-if-error", "stale-while-revalidate"};
        for (int i = 0; i < words.length; i++) {
            for (int j = 0; j < words.length; j++) {
                // 15 is no-store, which has no N; what is on one side of it is a THING's alone.
                if (i != 3 && j != 3) {
                    int kind = i < 3 ? R : T;
                    boolean counts = i == j;
                    String text = (kind == R ? "GET" : "PUT") + " /1\ncache-control: " + words[i] + "=0\n\n";
                    Check.tells(kind, text, 12 + j, counts ? 0 : NONE);
                }
            }
        }
        Check.tells(R, "GET /1\n\n", 15, 0);
        Check.tells(T, "PUT /1\n\n", 15, 0);
        Check.tells(T, "PUT /1\ncache-control: no-store\n\n", 15, 1);
    }

    private static void differentNumbers() {
        Check.sentence("7: how many different NUMBERS it has");
        String[] values = {"1", "1 1", "1 2", "1 2 1 2 1 2 1 2", "0 00000 1 00001", "1 10 100 1000 10000",
            "8 7 6 5 4 3 2 1", "8 7 6 5 4 3 2 8", "99999 99998 9999"};
        int[] many = {1, 1, 2, 2, 2, 5, 8, 7, 3};
        for (int i = 0; i < values.length; i++) {
            String value = '"' + values[i].replace(" ", "\", \"") + '"';
            Check.tells(R, "GET /1\nif-none-match: " + value + "\n\n", 7, many[i]);
        }
        Check.tells(R, "GET /1\nif-none-match: *\n\n", 7, 0);
        Check.tells(R, "GET /1\n\n", 7, 0);
    }

    private static void matchesThisNumber() {
        Check.sentence("Whether if-none-match has this NUMBER");
        HeadDesk desk = Check.having(R, "GET /1\nif-none-match: \"10\", \"00020\", \"99999\"\n\n");
        int[] near = {9, 10, 11, 19, 20, 21, 99998, 99999, 100000};
        for (int i = 0; i < near.length; i++) {
            Check.due("matches(" + near[i] + ")", desk.matches(near[i]), i % 3 == 1);
        }
        int[] others = {0, 1, 2, 3, -1, -2, -10, 256 + 10, 65536 + 10, Integer.MIN_VALUE, Integer.MAX_VALUE};
        for (int version : others) {
            Check.due("matches(" + version + ")", desk.matches(version), false);
        }
        HeadDesk zero = Check.having(R, "GET /1\nif-none-match: \"0\"\n\n");
        Check.due("matches(-1)", zero.matches(-1), false);
        Check.due("matches(0)", zero.matches(0), true);
        Check.due("matches(1)", zero.matches(1), false);
        HeadDesk eight = Check.having(R,
            "GET /1\nif-none-match: \"1\", \"2\", \"3\", \"4\", \"5\", \"6\", \"7\", \"8\"\n\n");
        for (int version = 0; version <= 9; version++) {
            Check.due("of eight, matches(" + version + ")", eight.matches(version), version >= 1 && version <= 8);
        }
    }

    private static void matchesAllWithAStar() {
        Check.sentence("Whether if-none-match is *");
        int[] any = {0, -1, 1, 99999, 100000, Integer.MIN_VALUE, Integer.MAX_VALUE};
        HeadDesk star = Check.having(R, "GET /1\nif-none-match: *\n\n");
        HeadDesk without = Check.having(R, "GET /1\nx: *\n\n");
        for (int version : any) {
            Check.due("of *, matches(" + version + ")", star.matches(version), true);
            Check.due("without, matches(" + version + ")", without.matches(version), false);
        }
    }

    private static void matchesOfTheLatest() {
        Check.sentence("if-none-match of the latest good TEXT, a REQUEST");
        HeadDesk desk = new HeadDesk();
        Check.typed(desk, "GET /1\nif-none-match: *\n");
        Check.read(desk, R);
        Check.due("of none", desk.matches(1), false);
        matchesBehind(desk, R, "GET /1\nif-none-match: \"1\", \"2\", \"3\"\n\n", true, true);
        matchesBehind(desk, R, "GET /1\nif-none-match: \"2\"\n\n", false, true);
        matchesBehind(desk, T, "PUT /1\nif-none-match: \"1\", \"2\"\n\n", false, false);
        matchesBehind(desk, R, "HEAD /1\nif-none-match: *\n\n", true, true);
        matchesBehind(desk, T, "PUT /1\nif-none-match: *\n\n", false, false);
        matchesBehind(desk, R, "HEAD /1\nif-none-match: \"1\"\n\n", true, false);
        matchesBehind(desk, R, "HEAD /1\n\n", false, false);
    }

    private static void matchesBehind(HeadDesk desk, int kind, String text, boolean one, boolean two) {
        Check.typed(desk, text);
        Check.read(desk, kind);
        Check.due("fault of " + Check.shown(text), desk.fault(), NONE);
        Check.due("matches(1) of " + Check.shown(text), desk.matches(1), one);
        Check.due("matches(2) of " + Check.shown(text), desk.matches(2), two);
    }
}
