/** The first and the last of the 512 calls of an object: each method as either, and long runs of one kind of call. */
public final class CallsTest {
    private static final int NO_SUCH = VisaPages.NO_SUCH, BAD_VALUE = VisaPages.BAD_VALUE, BAD_TEXT = VisaPages.BAD_TEXT;
    private static final int TOO_MANY = VisaPages.TOO_MANY, NOT_POSSIBLE = VisaPages.NOT_POSSIBLE, NONE = VisaPages.NONE;
    private static final int READ = VisaPages.READ, WRITE = VisaPages.WRITE, CALLS = 512;

    public static void main(String[] args) {
        firstCall();
        firstCallInError();
        lastCall();
        lastCallInError();
        manySteps();
        manyDrops();
        manyWipes();
        manyVisitsByTexts();
        manyChanges();
        manyPuts();
        manySettings();
        changeAndUndo();
        saveAndRestore();
        stampsUndone();
        Due.end("CallsTest");
    }

    private static void first(String call, long want, Houses.Call made) {
        Due.due("as the first call: " + call, made.on(Houses.fresh()), want);
    }

    private static void firstCall() {
        first("set(BOARD, 8)", 4, x -> x.set(0, 8));
        first("set(NAMES, 0)", 1, x -> x.set(1, 0));
        first("set(WIPE, 0)", 2, x -> x.set(2, 0));
        first("set(KEEP, 1)", 0, x -> x.set(3, 1));
        first("own(11, 5)", 0, x -> x.own(11, 5));
        first("own(0, NONE)", 0, x -> x.own(0, NONE));
        first("stamp(0, 1, 0, 7)", NOT_POSSIBLE, x -> x.stamp(0, 1, 0, 7));
        first("pass(0, 1, 7)", NO_SUCH, x -> x.pass(0, 1, 7));
        first("forge(0, 1, 0, 7, NONE)", 0, x -> x.forge(0, 1, 0, 7, NONE));
        first("takeBack(0)", NO_SUCH, x -> x.takeBack(0));
        first("door(0, 0, 0)", NO_SUCH, x -> x.door(0, 0, 0));
        first("door(5, 9, NONE)", 0, x -> x.door(5, 9, NONE));
        first("come(0, 0, READ)", 1, x -> x.come(0, 0, READ));
        first("flush()", 0, x -> x.flush());
        first("ofPage(0, 0)", NONE, x -> x.ofPage(0, 0));
        first("ofPage(11, 3)", 0, x -> x.ofPage(11, 3));
        first("ofStamp(0, 0)", NO_SUCH, x -> x.ofStamp(0, 0));
        first("leads(5, 9)", NONE, x -> x.leads(5, 9));
        first("note(0, 0)", NO_SUCH, x -> x.note(0, 0));
        first("count(14)", 0, x -> x.count(14));
        first("ended(6)", 0, x -> x.ended(6));
        first("walk(5, 9, WRITE, 0)", 1, x -> x.walk(5, 9, WRITE, 0));
        first("walk(5, 9, WRITE, 1)", 0, x -> x.walk(5, 9, WRITE, 1));
        first("hides(0)", NO_SUCH, x -> x.hides(0));
        first("needless(0)", 0, x -> x.needless(0));
        first("longest()", NONE, x -> x.longest());
        first("put('t')", 1, x -> x.put('t'));
        first("wipe()", 0, x -> x.wipe());
        first("fault()", 0, x -> x.fault());
        first("carryOut()", BAD_TEXT, x -> x.carryOut());
        first("undo()", NOT_POSSIBLE, x -> x.undo());
        first("save(1)", 0, x -> x.save(1));
        first("restore(0)", NOT_POSSIBLE, x -> x.restore(0));
    }

    private static void firstCallInError() {
        first("set(4, 0)", BAD_VALUE, x -> x.set(4, 0));
        first("own(12, 0)", NO_SUCH, x -> x.own(12, 0));
        first("come(0, 0, 3)", BAD_VALUE, x -> x.come(0, 0, 3));
        first("save(2)", BAD_VALUE, x -> x.save(2));
        first("put(0)", BAD_VALUE, x -> x.put(0));
    }

    /** 511 calls: page 0 of guest 0, stamp 0 to guest 1, a saved slot, a text, and 506 visits, 505 of them by a note. */
    private static VisaPages after511() {
        VisaPages x = Houses.stamped(1);
        x.save(0);
        x.put(Due.packed("t0"));
        for (int call = 5; call < CALLS - 1; call++) {
            x.come(1, 0, READ);
        }
        return x;
    }

    private static void last(String call, long want, Houses.Call made) {
        Due.due("as the last call: " + call, made.on(after511()), want);
    }

    private static void lastCall() {
        last("set(BOARD, 8)", 4, x -> x.set(0, 8));
        last("own(0, 1)", 1, x -> x.own(0, 1));
        last("stamp(0, 1, 0, 7)", 1, x -> x.stamp(0, 1, 0, 7));
        last("pass(0, 1, 7)", 1, x -> x.pass(0, 1, 7));
        last("forge(0, 1, 0, 7, 0)", 1, x -> x.forge(0, 1, 0, 7, 0));
        last("takeBack(0)", 1, x -> x.takeBack(0));
        last("door(1, 0, NONE)", 1, x -> x.door(1, 0, NONE));
        last("come(1, 0, WRITE)", 0, x -> x.come(1, 0, WRITE));
        last("come(2, 0, READ)", 1, x -> x.come(2, 0, READ));
        last("flush()", 1, x -> x.flush());
        last("ofPage(0, 1)", 3, x -> x.ofPage(0, 1));
        last("ofStamp(0, 7)", 1, x -> x.ofStamp(0, 7));
        last("leads(1, 0)", 0, x -> x.leads(1, 0));
        last("note(0, 0)", 1, x -> x.note(0, 0));
        long[] counts = {1, 1, 1, 1, 506, 505, 506, 0, 0, 4, 1, 2, 0, 2, 6};
        for (int what = 0; what <= 14; what++) {
            int w = what;
            last("count(" + what + ")", counts[what], x -> x.count(w));
        }
        last("ended(0)", 506, x -> x.ended(0));
        last("walk(1, 0, READ, 1)", 1, x -> x.walk(1, 0, READ, 1));
        last("hides(0)", 2, x -> x.hides(0));
        last("needless(0)", 0, x -> x.needless(0));
        last("longest()", 0, x -> x.longest());
        last("put(';')", 3, x -> x.put(';'));
        last("wipe()", 2, x -> x.wipe());
        last("fault()", NONE, x -> x.fault());
        last("carryOut()", 1, x -> x.carryOut());
        last("undo()", 5, x -> x.undo());
        last("save(1)", 1, x -> x.save(1));
        last("restore(0)", 1, x -> x.restore(0));
    }

    private static void lastCallInError() {
        last("set(0, 9)", BAD_VALUE, x -> x.set(0, 9));
        last("own(0, 6)", NO_SUCH, x -> x.own(0, 6));
        last("stamp(1, 1, 0, 7)", NOT_POSSIBLE, x -> x.stamp(1, 1, 0, 7));
        last("pass(1, 1, 7)", NO_SUCH, x -> x.pass(1, 1, 7));
        last("takeBack(1)", NO_SUCH, x -> x.takeBack(1));
        last("come(1, 0, 0)", BAD_VALUE, x -> x.come(1, 0, 0));
        last("put(32)", BAD_VALUE, x -> x.put(32));
        last("restore(1)", NOT_POSSIBLE, x -> x.restore(1));
        last("restore(2)", BAD_VALUE, x -> x.restore(2));
    }

    /** 44 calls for a chain of 40 up to a former owner, 467 walks along all of it. */
    private static void manySteps() {
        for (int what : new int[] {4, 6}) {
            VisaPages x = Houses.stamped(1);
            for (int stamp = 1; stamp < 40; stamp++) {
                x.pass(stamp - 1, 1, 7);
            }
            x.door(1, 0, 39);
            x.own(0, 3);
            int calls = 3 + 39 + 2;
            while (calls < CALLS - 1) {
                Due.due("a long walk", x.come(1, 0, READ), 6);
                calls++;
            }
            Due.due("count(" + what + ") after many steps", x.count(what), what == 4 ? 467 : 467 * 40);
        }
    }

    private static void manyDrops() {
        for (int what : new int[] {2, 7, 8}) {
            VisaPages x = Houses.stamped(1);
            x.door(1, 1, 0);
            x.set(VisaPages.BOARD, 1);
            for (int call = 5; call < CALLS - 1; call++) {
                x.come(1, call % 2, READ);
            }
            Due.due("count(" + what + ") after many drops", x.count(what), what == 2 ? 1 : what == 7 ? 0 : 505);
        }
    }

    private static void manyWipes() {
        VisaPages x = Houses.stamped(1);
        for (int call = 3; call < CALLS - 1; call += 2) {
            x.come(1, 0, READ);
            Due.due("flush", x.flush(), 1);
        }
        Due.due("count(7) after many wipes", x.count(7), 254);
        VisaPages y = Houses.stamped(1);
        y.set(VisaPages.NAMES, 0);
        y.come(0, 0, READ);
        for (int call = 5; call < CALLS - 2; call += 2) {
            y.come(1, 0, READ);
            y.come(0, 0, READ);
        }
        Due.due("count(7) after many guests", y.count(7), 253);
    }

    /** Texts make more visits than there are calls. */
    private static void manyVisitsByTexts() {
        VisaPages x = Houses.stamped(1);
        int calls = 3;
        int visits = 0;
        while (calls + 11 < CALLS) {
            Due.putText(x, "?1.0r;".repeat(12) + "?1.0w");
            Due.due("carryOut", x.carryOut(), 13);
            calls += 11;
            visits += 13;
        }
        Due.due("more visits than calls", visits > CALLS ? 1 : 0, 1);
        Due.due("count(4)", x.count(4), visits);
        Due.due("count(5)", x.count(5), visits - 2);
        Due.due("ended(0)", x.ended(0), visits);
    }

    private static void manyChanges() {
        VisaPages x = Houses.fresh();
        for (int call = 0; call < CALLS - 7; call++) {
            Due.due("own", x.own(0, call % 6), 0);
        }
        for (int left = 5; left >= 0; left--) {
            Due.due("undo", x.undo(), left);
        }
        Due.due("the last call: no seventh one", x.undo(), NOT_POSSIBLE);
        VisaPages y = Houses.fresh();
        for (int call = 0; call < CALLS - 1; call++) {
            y.own(call % 12, call % 6);
        }
        Due.due("the history after 511 changes", y.count(14), 6);
        VisaPages z = Houses.fresh();
        for (int call = 0; call < CALLS - 7; call++) {
            z.own(0, call % 6);
        }
        for (int back = 0; back < 6; back++) {
            z.undo();
        }
        Due.due("the owner after 505 changes and six undone", z.ofPage(0, 0), (CALLS - 7 - 6 - 1) % 6);
    }

    private static void manyPuts() {
        VisaPages x = Houses.fresh();
        for (int call = 1; call < CALLS; call++) {
            Due.due("put " + call, x.put('t'), call <= 80 ? call : TOO_MANY);
        }
        Due.due("wipe as the last call", x.wipe(), 80);
        VisaPages y = Houses.fresh();
        for (int call = 0; call < CALLS - 2; call += 2) {
            Due.due("put", y.put(Due.packed("12345678")), 8);
            Due.due("wipe", y.wipe(), 8);
        }
        Due.due("wipe", y.wipe(), 0);
        Due.due("history", y.count(14), 0);
    }

    private static void manySettings() {
        VisaPages x = Houses.fresh();
        int before = 4;
        for (int call = 0; call < CALLS; call++) {
            Due.due("set " + call, x.set(VisaPages.BOARD, call % 8 + 1), before);
            before = call % 8 + 1;
        }
    }

    private static void changeAndUndo() {
        VisaPages x = Houses.fresh();
        x.own(1, 1);
        for (int call = 1; call < CALLS - 2; call += 2) {
            Due.due("stamp", x.stamp(1, 2, 1, 7), 0);
            Due.due("undo", x.undo(), 1);
        }
        Due.due("the last change but one can be undone", x.undo(), 0);
        VisaPages y = Houses.fresh();
        for (int call = 0; call < CALLS; call++) {
            Due.due("undo " + call, y.undo(), NOT_POSSIBLE);
        }
    }

    private static void saveAndRestore() {
        VisaPages x = Houses.stamped(3);
        for (int call = 5; call < CALLS - 4; call += 4) {
            Due.due("save", x.save(call / 4 % 2), 3);
            Due.due("forge", x.forge(0, 0, 0, 1, NONE), 3);
            Due.due("takeBack", x.takeBack(0), 0);
            Due.due("restore", x.restore(call / 4 % 2), 3);
        }
        Due.due("good", x.count(1), 3);
        VisaPages y = Houses.stamped(3);
        y.save(1);
        for (int call = 6; call < CALLS; call++) {
            Due.due("restore " + call, y.restore(1), 3);
        }
    }

    /** More than 40 stamps are made, but never more than 40 are there. */
    private static void stampsUndone() {
        VisaPages x = Houses.stamped(34);
        int calls = 36;
        while (calls + 13 <= CALLS) {
            for (int stamp = 34; stamp < 40; stamp++) {
                Due.due("stamp", x.stamp(0, 2, 0, stamp % 7 + 1), stamp);
            }
            Due.due("one more", x.stamp(0, 2, 0, 1), TOO_MANY);
            for (int left = 5; left >= 0; left--) {
                Due.due("undo", x.undo(), left);
            }
            calls += 13;
        }
        Due.due("stamps", x.count(0), 34);
    }
}
