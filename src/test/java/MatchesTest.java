/** Promise 6: which versions if-none-match of the latest good TEXT names. */
public final class MatchesTest {
    public static void main(String[] args) {
        HeadDesk star = Check.having(Check.REQUEST, "GET /1\nif-none-match: *\n\n");
        int[] any = {0, 1, -1, 99999, 100000, Integer.MIN_VALUE, Integer.MAX_VALUE};
        for (int version : any) {
            Check.due("* matches(" + version + ")", star.matches(version), true);
        }

        HeadDesk some = Check.having(Check.REQUEST,
            "HEAD /1\nif-none-match: \"0\", \"007\", \"99999\", \"3\", \"3\", \"4\", \"5\", \"6\"\n\n");
        int[] named = {0, 7, 99999, 3, 4, 5, 6};
        for (int version : named) {
            Check.due("matches(" + version + ")", some.matches(version), true);
        }
        int[] others = {1, 2, 8, -1, -7, 9999, 100000, Integer.MIN_VALUE, Integer.MAX_VALUE};
        for (int version : others) {
            Check.due("matches(" + version + ")", some.matches(version), false);
        }

        HeadDesk without = Check.having(Check.REQUEST, "GET /1\n\n");
        Check.due("without if-none-match", without.matches(0), false);

        Check.typed(some, "PUT /1\nif-none-match: *\n\n");
        Check.due("a THING", Check.read(some, Check.THING), 2);
        Check.due("of a THING", some.matches(7), false);
        Check.end();
    }
}
