/** Promise 1: a new object has an empty tape, no fault, and no good TEXT. */
public final class NewObjectTest {
    public static void main(String[] args) {
        HeadDesk desk = new HeadDesk();
        Check.due("fault()", desk.fault(), HeadDesk.NONE);
        for (int what = -2; what <= 20; what++) {
            Check.due("told(" + what + ")", desk.told(what), HeadDesk.NONE);
            Check.due("bytes(9, " + what + ")", desk.bytes(9, what), HeadDesk.NONE);
        }
        Check.due("matches(0)", desk.matches(0), false);
        Check.due("matches(-1)", desk.matches(-1), false);
        Check.due("read(0)", Check.read(desk, Check.REQUEST), Check.THROWN);
        Check.due("fault() of an empty tape", desk.fault(), 0);

        HeadDesk other = Check.having(Check.REQUEST, "GET /1\n\n");
        Check.due("objects share nothing", desk.told(1), HeadDesk.NONE);
        Check.due("told(1)", other.told(1), 1);
        Check.end();
    }
}
