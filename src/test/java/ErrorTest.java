/**
 * A call that returns an error changes nothing and records nothing: neither the house, nor the pad, the history or the
 * slots. Each house with a wrong call is asked beside a twin that had no such call; none has more than 512 calls.
 */
public final class ErrorTest {
    private static final int NO_SUCH = VisaPages.NO_SUCH, BAD_VALUE = VisaPages.BAD_VALUE, BAD_TEXT = VisaPages.BAD_TEXT;
    private static final int TOO_MANY = VisaPages.TOO_MANY, NOT_POSSIBLE = VisaPages.NOT_POSSIBLE, NONE = VisaPages.NONE;
    private static final int LOW = Integer.MIN_VALUE, HIGH = Integer.MAX_VALUE;

    /** What is done to a house and to its twin before both are told. */
    private static final Houses.Call[] THEN = {
        x -> 0,
        x -> undo(x, 1), x -> undo(x, 2), x -> undo(x, 3), x -> undo(x, 4), x -> undo(x, 5), x -> undo(x, 6),
        x -> undo(x, 7),
        x -> x.restore(0), x -> x.restore(1),
        x -> x.restore(0) * 100 + undo(x, 6),
        x -> finishText(x),
    };

    private String house;
    private Houses.Maker maker;
    private String[][] twins;
    private long[] answers;

    public static void main(String[] args) {
        ErrorTest test = new ErrorTest();
        test.busy();
        test.busyWithText();
        test.full();
        test.empty();
        test.fullHistoryOfOneThing();
        Due.end("ErrorTest");
    }

    private static long undo(VisaPages x, int times) {
        long answer = 0;
        for (int time = 0; time < times; time++) {
            answer = x.undo();
        }
        return answer * 100 + x.count(14);
    }

    /** Tells what stands on the pad: its length, its fault, and what comes of it when it is completed. */
    private static long finishText(VisaPages x) {
        long answer = x.count(13) * 100 + x.fault();
        x.put('1');
        answer = answer * 100 + x.fault();
        answer = answer * 100 + x.carryOut();
        return answer * 100 + x.wipe();
    }

    private void beginWith(String name, Houses.Maker what) {
        house = name;
        maker = what;
        twins = new String[THEN.length][Due.PIECES];
        answers = new long[THEN.length];
        for (int then = 0; then < THEN.length; then++) {
            for (int piece = 0; piece < Due.PIECES; piece++) {
                VisaPages twin = maker.make();
                answers[then] = THEN[then].on(twin);
                twins[then][piece] = Due.piece(twin, piece);
            }
        }
    }

    private void wrong(String call, long error, Houses.Call made) {
        String told = house + ": " + call;
        for (int then = 0; then < THEN.length; then++) {
            for (int piece = 0; piece < Due.PIECES; piece++) {
                VisaPages x = maker.make();
                Due.due(told, made.on(x), error);
                Due.due(told + ", and then " + then, THEN[then].on(x), answers[then]);
                Due.same(told + ", and then " + then, Due.piece(x, piece), twins[then][piece]);
            }
        }
    }

    /** The busy house has something of all that an error could spoil. */
    private static void busyIsBusy() {
        VisaPages x = Houses.busy();
        for (int what : new int[] {0, 1, 2, 3, 4, 5, 6, 7, 8, 13}) {
            Due.due("busy: count(" + what + ") is above 0", x.count(what) > 0 ? 1 : 0, 1);
        }
        for (int reason = 0; reason < 7; reason++) {
            Due.due("busy: ended(" + reason + ") is above 0", x.ended(reason) > 0 ? 1 : 0, 1);
        }
        Due.due("busy: history", x.count(14), 6);
        Due.due("busy: the board is full", x.count(2), x.count(9));
    }

    private void busy() {
        busyIsBusy();
        beginWith("busy", Houses::busy);
        wrong("set(-1, 1)", BAD_VALUE, x -> x.set(-1, 1));
        wrong("set(4, 1)", BAD_VALUE, x -> x.set(4, 1));
        wrong("set(BOARD, 0)", BAD_VALUE, x -> x.set(0, 0));
        wrong("set(BOARD, 9)", BAD_VALUE, x -> x.set(0, 9));
        wrong("set(NAMES, -1)", BAD_VALUE, x -> x.set(1, -1));
        wrong("set(NAMES, 2)", BAD_VALUE, x -> x.set(1, 2));
        wrong("set(WIPE, -1)", BAD_VALUE, x -> x.set(2, -1));
        wrong("set(WIPE, 3)", BAD_VALUE, x -> x.set(2, 3));
        wrong("set(KEEP, -1)", BAD_VALUE, x -> x.set(3, -1));
        wrong("set(KEEP, 2)", BAD_VALUE, x -> x.set(3, 2));
        wrong("own(-1, 1)", NO_SUCH, x -> x.own(-1, 1));
        wrong("own(12, 1)", NO_SUCH, x -> x.own(12, 1));
        wrong("own(0, -1)", NO_SUCH, x -> x.own(0, -1));
        wrong("own(0, 6)", NO_SUCH, x -> x.own(0, 6));
        wrong("stamp(-1, 1, 0, 1)", NO_SUCH, x -> x.stamp(-1, 1, 0, 1));
        wrong("stamp(6, 1, 0, 1)", NO_SUCH, x -> x.stamp(6, 1, 0, 1));
        wrong("stamp(0, -1, 0, 1)", NO_SUCH, x -> x.stamp(0, -1, 0, 1));
        wrong("stamp(0, 6, 0, 1)", NO_SUCH, x -> x.stamp(0, 6, 0, 1));
        wrong("stamp(0, 1, -1, 1)", NO_SUCH, x -> x.stamp(0, 1, -1, 1));
        wrong("stamp(0, 1, 12, 1)", NO_SUCH, x -> x.stamp(0, 1, 12, 1));
        wrong("stamp(0, 1, 0, 0)", BAD_VALUE, x -> x.stamp(0, 1, 0, 0));
        wrong("stamp(0, 1, 0, 8)", BAD_VALUE, x -> x.stamp(0, 1, 0, 8));
        wrong("stamp(1, 1, 0, 1)", NOT_POSSIBLE, x -> x.stamp(1, 1, 0, 1));
        wrong("stamp of nobody's page", NOT_POSSIBLE, x -> x.stamp(0, 1, 5, 1));
        wrong("pass(-1, 1, 1)", NO_SUCH, x -> x.pass(-1, 1, 1));
        wrong("pass(8, 1, 1)", NO_SUCH, x -> x.pass(8, 1, 1));
        wrong("pass(0, -1, 1)", NO_SUCH, x -> x.pass(0, -1, 1));
        wrong("pass(0, 6, 1)", NO_SUCH, x -> x.pass(0, 6, 1));
        wrong("pass(0, 1, 0)", BAD_VALUE, x -> x.pass(0, 1, 0));
        wrong("pass(0, 1, 8)", BAD_VALUE, x -> x.pass(0, 1, 8));
        wrong("pass without GIVE", NOT_POSSIBLE, x -> x.pass(2, 1, 1));
        wrong("pass of a right that it lacks", NOT_POSSIBLE, x -> x.pass(5, 1, 1));
        wrong("pass of a forged stamp", NOT_POSSIBLE, x -> x.pass(3, 1, 1));
        wrong("pass of one that was taken back", NOT_POSSIBLE, x -> x.pass(4, 1, 1));
        wrong("forge(-1, 1, 0, 1, NONE)", NO_SUCH, x -> x.forge(-1, 1, 0, 1, NONE));
        wrong("forge(6, 1, 0, 1, NONE)", NO_SUCH, x -> x.forge(6, 1, 0, 1, NONE));
        wrong("forge(0, -1, 0, 1, NONE)", NO_SUCH, x -> x.forge(0, -1, 0, 1, NONE));
        wrong("forge(0, 6, 0, 1, NONE)", NO_SUCH, x -> x.forge(0, 6, 0, 1, NONE));
        wrong("forge(0, 1, -1, 1, NONE)", NO_SUCH, x -> x.forge(0, 1, -1, 1, NONE));
        wrong("forge(0, 1, 12, 1, NONE)", NO_SUCH, x -> x.forge(0, 1, 12, 1, NONE));
        wrong("forge(0, 1, 0, 1, -1)", NO_SUCH, x -> x.forge(0, 1, 0, 1, -1));
        wrong("forge(0, 1, 0, 1, 8)", NO_SUCH, x -> x.forge(0, 1, 0, 1, 8));
        wrong("forge(0, 1, 0, 0, NONE)", BAD_VALUE, x -> x.forge(0, 1, 0, 0, NONE));
        wrong("forge(0, 1, 0, 8, NONE)", BAD_VALUE, x -> x.forge(0, 1, 0, 8, NONE));
        wrong("takeBack(-1)", NO_SUCH, x -> x.takeBack(-1));
        wrong("takeBack(8)", NO_SUCH, x -> x.takeBack(8));
        wrong("takeBack(4)", NOT_POSSIBLE, x -> x.takeBack(4));
        wrong("door(-1, 0, 0)", NO_SUCH, x -> x.door(-1, 0, 0));
        wrong("door(6, 0, 0)", NO_SUCH, x -> x.door(6, 0, 0));
        wrong("door(1, -1, 0)", NO_SUCH, x -> x.door(1, -1, 0));
        wrong("door(1, 10, 0)", NO_SUCH, x -> x.door(1, 10, 0));
        wrong("door(1, 0, -1)", NO_SUCH, x -> x.door(1, 0, -1));
        wrong("door(1, 0, 8)", NO_SUCH, x -> x.door(1, 0, 8));
        wrong("come(-1, 0, 1)", NO_SUCH, x -> x.come(-1, 0, 1));
        wrong("come(6, 0, 1)", NO_SUCH, x -> x.come(6, 0, 1));
        wrong("come(2, -1, 1)", NO_SUCH, x -> x.come(2, -1, 1));
        wrong("come(2, 10, 1)", NO_SUCH, x -> x.come(2, 10, 1));
        wrong("come(2, 0, 0)", BAD_VALUE, x -> x.come(2, 0, 0));
        wrong("come(2, 0, 3)", BAD_VALUE, x -> x.come(2, 0, 3));
        wrong("come(2, 0, GIVE)", BAD_VALUE, x -> x.come(2, 0, 4));
        wrong("carryOut of a fault", BAD_TEXT, x -> x.carryOut());
        wrong("restore(-1)", BAD_VALUE, x -> x.restore(-1));
        wrong("restore(2)", BAD_VALUE, x -> x.restore(2));
        wrong("save(-1)", BAD_VALUE, x -> x.save(-1));
        wrong("save(2)", BAD_VALUE, x -> x.save(2));
        busyAnswers();
        busyFar();
    }

    private void busyAnswers() {
        wrong("put(0)", BAD_VALUE, x -> x.put(0));
        wrong("put(32)", BAD_VALUE, x -> x.put(32));
        wrong("put(127)", BAD_VALUE, x -> x.put(127));
        wrong("put of a good one behind a bad one", BAD_VALUE, x -> x.put(32L << 8 | '1'));
        wrong("put of a good one ahead of a bad one", BAD_VALUE, x -> x.put('1' << 8 | 32L));
        wrong("put of a good one above 8 bits that are 0", BAD_VALUE, x -> x.put('1' << 16 | '1'));
        wrong("ofPage(-1, 0)", NO_SUCH, x -> x.ofPage(-1, 0));
        wrong("ofPage(0, 4)", BAD_VALUE, x -> x.ofPage(0, 4));
        wrong("ofStamp(8, 0)", NO_SUCH, x -> x.ofStamp(8, 0));
        wrong("ofStamp(0, 10)", BAD_VALUE, x -> x.ofStamp(0, 10));
        wrong("leads(6, 0)", NO_SUCH, x -> x.leads(6, 0));
        wrong("leads(0, 10)", NO_SUCH, x -> x.leads(0, 10));
        wrong("note(4, 0)", NO_SUCH, x -> x.note(4, 0));
        wrong("note(0, 4)", BAD_VALUE, x -> x.note(0, 4));
        wrong("count(15)", BAD_VALUE, x -> x.count(15));
        wrong("ended(7)", BAD_VALUE, x -> x.ended(7));
        wrong("walk(6, 0, 1, 0)", NO_SUCH, x -> x.walk(6, 0, 1, 0));
        wrong("walk(1, 0, 3, 0)", BAD_VALUE, x -> x.walk(1, 0, 3, 0));
        wrong("walk(1, 0, 1, 2)", BAD_VALUE, x -> x.walk(1, 0, 1, 2));
        wrong("hides(8)", NO_SUCH, x -> x.hides(8));
        wrong("needless(12)", NO_SUCH, x -> x.needless(12));
    }

    private void busyFar() {
        for (int far : new int[] {LOW, LOW + 1, -1000, 1000, 1 << 16, 1 << 30, HIGH - 1, HIGH}) {
            wrong("set(far, 1) " + far, BAD_VALUE, x -> x.set(far, 1));
            wrong("own(far, 1) " + far, NO_SUCH, x -> x.own(far, 1));
            wrong("stamp(0, 1, far, 1) " + far, NO_SUCH, x -> x.stamp(0, 1, far, 1));
            wrong("pass(far, 1, 1) " + far, NO_SUCH, x -> x.pass(far, 1, 1));
            wrong("forge(0, 1, 0, 1, far) " + far, NO_SUCH, x -> x.forge(0, 1, 0, 1, far));
            wrong("takeBack(far) " + far, NO_SUCH, x -> x.takeBack(far));
            wrong("door(1, far, 0) " + far, NO_SUCH, x -> x.door(1, far, 0));
            wrong("come(far, 0, 1) " + far, NO_SUCH, x -> x.come(far, 0, 1));
            wrong("come(1, 0, far) " + far, BAD_VALUE, x -> x.come(1, 0, far));
            wrong("restore(far) " + far, BAD_VALUE, x -> x.restore(far));
            wrong("save(far) " + far, BAD_VALUE, x -> x.save(far));
        }
    }

    private void busyWithText() {
        beginWith("busy with a text", Houses::busyWithText);
        wrong("set(BOARD, 9)", BAD_VALUE, x -> x.set(0, 9));
        wrong("takeBack(4)", NOT_POSSIBLE, x -> x.takeBack(4));
        wrong("put(0)", BAD_VALUE, x -> x.put(0));
        wrong("restore(2)", BAD_VALUE, x -> x.restore(2));
        wrong("come(1, 0, 0)", BAD_VALUE, x -> x.come(1, 0, 0));
    }

    private void full() {
        beginWith("full", Houses::full);
        wrong("stamp", TOO_MANY, x -> x.stamp(0, 1, 0, 7));
        wrong("stamp of nobody's page", TOO_MANY, x -> x.stamp(0, 1, 1, 7));
        wrong("pass", TOO_MANY, x -> x.pass(0, 1, 7));
        wrong("forge", TOO_MANY, x -> x.forge(0, 1, 0, 7, NONE));
        wrong("forge with a root", TOO_MANY, x -> x.forge(0, 1, 0, 7, 39));
        wrong("pass(40, 1, 7)", NO_SUCH, x -> x.pass(40, 1, 7));
        wrong("restore(0)", NOT_POSSIBLE, x -> x.restore(0));
        beginWith("a full pad", () -> {
            VisaPages x = Houses.stamped(3);
            Due.putText(x, "t0;t1;t2".repeat(10));
            return x;
        });
        wrong("put of one", TOO_MANY, x -> x.put('t'));
        wrong("put of eight", TOO_MANY, x -> x.put(Due.packed("t0;t1;t2")));
        wrong("carryOut", BAD_TEXT, x -> x.carryOut());
        beginWith("79 characters", () -> {
            VisaPages x = Houses.stamped(3);
            Due.putText(x, "t0;t1;t2;".repeat(9).substring(0, 79));
            return x;
        });
        wrong("put of two", TOO_MANY, x -> x.put(Due.packed("2;")));
    }

    private void empty() {
        beginWith("empty", Houses::fresh);
        wrong("undo", NOT_POSSIBLE, x -> x.undo());
        wrong("restore(0)", NOT_POSSIBLE, x -> x.restore(0));
        wrong("restore(1)", NOT_POSSIBLE, x -> x.restore(1));
        wrong("carryOut", BAD_TEXT, x -> x.carryOut());
        wrong("takeBack(0)", NO_SUCH, x -> x.takeBack(0));
        wrong("pass(0, 0, 1)", NO_SUCH, x -> x.pass(0, 0, 1));
        wrong("door(0, 0, 0)", NO_SUCH, x -> x.door(0, 0, 0));
        wrong("forge(0, 0, 0, 1, 0)", NO_SUCH, x -> x.forge(0, 0, 0, 1, 0));
        wrong("stamp(0, 0, 0, 1)", NOT_POSSIBLE, x -> x.stamp(0, 0, 0, 1));
    }

    /** Errors between changes leave each of the six states what it was. */
    private void fullHistoryOfOneThing() {
        beginWith("twelve pages", Houses::owned);
        wrong("many errors", NO_SUCH, x -> {
            x.set(0, 9);
            x.own(12, 1);
            x.stamp(1, 0, 0, 1);
            x.takeBack(0);
            x.come(0, 0, 0);
            x.carryOut();
            x.restore(0);
            return x.door(0, 10, NONE);
        });
    }
}
