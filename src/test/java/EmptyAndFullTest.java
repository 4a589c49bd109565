/** What is empty (stamps, notes, pad, history, slots) and what is full, with the last one that fits and one more. */
public final class EmptyAndFullTest {
    private static final int NO_SUCH = VisaPages.NO_SUCH, BAD_VALUE = VisaPages.BAD_VALUE, BAD_TEXT = VisaPages.BAD_TEXT;
    private static final int TOO_MANY = VisaPages.TOO_MANY, NOT_POSSIBLE = VisaPages.NOT_POSSIBLE, NONE = VisaPages.NONE;
    private static final int READ = VisaPages.READ, WRITE = VisaPages.WRITE;

    private static void due(String call, long got, long want) {
        Due.due(call, got, want);
    }

    public static void main(String[] args) {
        newObject();
        noStamps();
        noNotes();
        emptyPad();
        noChange();
        emptySlots();
        fortyStamps();
        fortyStampsInATable();
        fullBoard();
        fullPad();
        sixStates();
        eachChangeAsTheSeventh();
        seventhState();
        slotsAreOverwritten();
        slotsAndHistoryApart();
        Due.end("EmptyAndFullTest");
    }

    private static void newObject() {
        int[] counts = {0, 0, 0, 0, 0, 0, 0, 0, 0, 4, 1, 2, 0, 0, 0};
        VisaPages x = Houses.fresh();
        for (int what = 0; what <= 14; what++) {
            due("a new object: count(" + what + ")", x.count(what), counts[what]);
        }
        for (int reason = 0; reason <= 6; reason++) {
            due("a new object: ended(" + reason + ")", x.ended(reason), 0);
        }
        for (int page = 0; page < 12; page++) {
            due("a new object: owner", x.ofPage(page, 0), NONE);
            for (int what = 1; what <= 3; what++) {
                due("a new object: ofPage(" + page + ", " + what + ")", x.ofPage(page, what), 0);
            }
            due("a new object: needless", x.needless(page), 0);
        }
        for (int door = 0; door < 60; door++) {
            due("a new object: leads", x.leads(door / 10, door % 10), NONE);
            due("a new object: walk", x.walk(door / 10, door % 10, READ, 0), 1);
            due("a new object: steps", x.walk(door / 10, door % 10, WRITE, 1), 0);
        }
        due("a new object: longest", x.longest(), NONE);
        due("a new object: fault", x.fault(), 0);
        VisaPages other = Houses.busy();
        due("objects are apart", x.count(0) + x.count(13) + x.count(14) + other.count(0), 8);
    }

    private static void noStamps() {
        VisaPages x = Houses.owned();
        for (int what = 0; what <= 9; what++) {
            due("no stamps: ofStamp(0, " + what + ")", x.ofStamp(0, what), NO_SUCH);
        }
        due("no stamps: takeBack(0)", x.takeBack(0), NO_SUCH);
        due("no stamps: pass(0, 0, 1)", x.pass(0, 0, 1), NO_SUCH);
        due("no stamps: door(0, 0, 0)", x.door(0, 0, 0), NO_SUCH);
        due("no stamps: a root 0", x.forge(0, 0, 0, 1, 0), NO_SUCH);
        due("no stamps: hides(0)", x.hides(0), NO_SUCH);
        due("no stamps: longest", x.longest(), NONE);
        due("no stamps: needless", x.needless(0), 0);
        due("no stamps: good ones of the page", x.ofPage(0, 3), 0);
        due("no stamps: the owner reads", x.ofPage(0, 1), 1);
        due("no stamps: the owner writes", x.ofPage(0, 2), 1);
        due("no stamps", x.count(0) + x.count(1), 0);
        due("the first stamp", x.stamp(0, 0, 0, 1), 0);
        due("one stamp: longest", x.longest(), 0);
        due("one stamp: takeBack(1)", x.takeBack(1), NO_SUCH);
        due("one stamp: a root", x.forge(0, 0, 0, 1, 0), 1);
        VisaPages y = Houses.fresh();
        due("the first stamp may be forged", y.forge(0, 0, 0, 1, NONE), 0);
        due("none is good", y.longest(), NONE);
        due("none is good", y.count(1), 0);
        due("there is one", y.count(0), 1);
    }

    private static void noNotes() {
        for (int wipe = 0; wipe <= 2; wipe++) {
            VisaPages x = Houses.stamped(2);
            x.set(VisaPages.WIPE, wipe);
            due("no notes: note(0, 0)", x.note(0, 0), NO_SUCH);
            due("no notes: note(0, 4)", x.note(0, 4), NO_SUCH);
            due("no notes: flush", x.flush(), 0);
            due("no notes: door", x.door(1, 0, 1), 0);
            due("no notes: shut", x.door(1, 0, NONE), 0);
            due("no notes: takeBack", x.takeBack(0), 0);
            due("no notes: own", x.own(0, 4), 0);
            due("no notes: set(BOARD, 1)", x.set(VisaPages.BOARD, 1), 4);
            due("no notes: set(NAMES, 0)", x.set(VisaPages.NAMES, 0), 1);
            due("no notes: another guest", x.come(3, 3, READ), 1);
            due("no notes: wiped", x.count(7), 0);
            due("no notes: dropped", x.count(8), 0);
            due("no notes: none helped", x.count(5), 0);
        }
    }

    private static void emptyPad() {
        VisaPages x = Houses.fresh();
        for (int time = 0; time < 2; time++) {
            due("empty pad: length", x.count(13), 0);
            due("empty pad: fault", x.fault(), 0);
            due("empty pad: carryOut", x.carryOut(), BAD_TEXT);
            due("empty pad: history", x.count(14), 0);
            due("empty pad: wipe", x.wipe(), 0);
            due("empty pad: put(0)", x.put(0), BAD_VALUE);
        }
        Due.putText(x, "o0=0");
        due("carryOut", x.carryOut(), 1);
        due("empty after carryOut: length", x.count(13), 0);
        due("empty after carryOut: fault", x.fault(), 0);
        due("empty after carryOut: wipe", x.wipe(), 0);
        due("empty after carryOut: carryOut", x.carryOut(), BAD_TEXT);
        due("the first character", x.put('t'), 1);
    }

    private static void noChange() {
        VisaPages x = Houses.fresh();
        due("nothing to undo", x.undo(), NOT_POSSIBLE);
        due("nothing to undo again", x.undo(), NOT_POSSIBLE);
        x.save(0);
        x.put('t');
        x.wipe();
        x.own(0, 6);
        x.walk(0, 0, READ, 0);
        due("errors, answers, texts and saving are not undone", x.undo(), NOT_POSSIBLE);
        due("one change", x.own(0, 0), 0);
        due("can be undone", x.undo(), 0);
        due("once", x.undo(), NOT_POSSIBLE);
        due("history", x.count(14), 0);
        due("the state stays", x.ofPage(0, 0), NONE);
    }

    private static void emptySlots() {
        VisaPages x = Houses.fresh();
        due("nothing in 0", x.restore(0), NOT_POSSIBLE);
        due("nothing in 1", x.restore(1), NOT_POSSIBLE);
        due("save(0) of an empty house", x.save(0), 0);
        due("still nothing in 1", x.restore(1), NOT_POSSIBLE);
        due("an empty house in 0", x.restore(0), 0);
        VisaPages y = Houses.stamped(2);
        due("save(1)", y.save(1), 2);
        due("nothing in 0", y.restore(0), NOT_POSSIBLE);
        due("undo", y.undo() * 0 + y.undo() * 0 + y.undo(), 1);
        due("a slot is not undone", y.restore(1), 2);
        due("nothing in 0", y.restore(0), NOT_POSSIBLE);
    }

    private static void fortyStamps() {
        for (int way = 0; way < 3; way++) {
            VisaPages x = Houses.stamped(38);
            for (int number = 38; number < 42; number++) {
                int answer = way == 0 ? x.stamp(0, 2, 0, 1) : way == 1 ? x.pass(0, 2, 1) : x.forge(0, 2, 0, 1, 0);
                due("stamp number " + number + " by way " + way, answer, number < 40 ? number : TOO_MANY);
            }
            due("stamps", x.count(0), 40);
            due("the last one's holder", x.ofStamp(39, 2), 2);
            due("no stamp 40", x.ofStamp(40, 2), NO_SUCH);
            due("a door leads by the last one", x.door(2, 2, 39), 0);
            due("and by no stamp 40", x.door(2, 2, 40), NO_SUCH);
            due("come", x.come(2, 2, READ), way == 2 ? 3 : 0);
            due("takeBack(40)", x.takeBack(40), NO_SUCH);
            due("takeBack(39)", x.takeBack(39), way == 2 ? 0 : 1);
            due("taken back, it keeps its number", x.stamp(0, 2, 0, 1), TOO_MANY);
            due("a text", Due.putText(x, "s0>1:0*1") * 0 + x.carryOut(), 0);
            for (int time = 0; time < 4; time++) {
                x.undo();
            }
            due("undone to 40 stamps", x.count(0), 40);
            x.undo();
            due("undone to 39 stamps", x.count(0), 39);
            due("the last number again", x.stamp(0, 3, 0, 2), 39);
            due("one more", x.pass(0, 3, 2), TOO_MANY);
        }
        VisaPages x = Houses.stamped(39);
        x.save(0);
        due("the fortieth by a text", Due.putText(x, "p0>1*1;p0>1*1") * 0 + x.carryOut(), 1);
        due("stamps", x.count(0), 40);
        due("restore", x.restore(0), 39);
        due("the fortieth again", x.forge(0, 0, 0, 1, 38), 39);
        due("one more", x.forge(0, 0, 0, 1, 38), TOO_MANY);
    }

    /** All 40 stamps in one chain, and all on one page beside one another. */
    private static void fortyStampsInATable() {
        VisaPages x = Houses.stamped(1);
        for (int stamp = 1; stamp < 40; stamp++) {
            due("pass", x.pass(stamp - 1, stamp % 6, 7), stamp);
        }
        for (int stamp = 0; stamp < 40; stamp++) {
            due("chain of " + stamp, x.ofStamp(stamp, 8), stamp + 1);
            due("below " + stamp, x.ofStamp(stamp, 9), 39 - stamp);
            due("good", x.ofStamp(stamp, 7), 1);
        }
        due("longest", x.longest(), 39);
        due("good", x.count(1), 40);
        due("of the page", x.ofPage(0, 3), 40);
        due("readers", x.ofPage(0, 1), 63);
        due("hides(0)", x.hides(0), 62);
        due("hides(39)", x.hides(39), 0);
        due("hides(1)", x.hides(1), 63 - 1 - 2);
        due("needless: all but the first six without the owner's", x.needless(0), needlessOfChain());
        x.takeBack(20);
        due("longest", x.longest(), 19);
        due("good", x.count(1), 20);
        VisaPages y = Houses.full();
        due("beside one another: longest", y.longest(), 0);
        due("needless", y.needless(0), (1L << 40) - 1);
        due("below", y.ofStamp(0, 9), 0);
    }

    /** Stamp n of the chain is held by n % 6 (0 by 1), so without n, guests are left with the stamps below n. */
    private static long needlessOfChain() {
        long set = 0;
        for (int without = 0; without < 40; without++) {
            int readers = 1;
            for (int stamp = 0; stamp < without; stamp++) {
                readers |= stamp == 0 ? 2 : 1 << stamp % 6;
            }
            set |= readers == 63 ? 1L << without : 0;
        }
        return set;
    }

    private static void fullBoard() {
        for (int size = 1; size <= 8; size++) {
            VisaPages x = Houses.noted(size);
            x.set(VisaPages.BOARD, size);
            due("BOARD " + size + " is full", x.count(2), size);
            due("none was dropped", x.count(8), 0);
            due("the last note", x.note(size - 1, 1), size - 1);
            due("no note more", x.note(size, 1), NO_SUCH);
            x.door(1, 9, 0);
            due("one more", x.come(1, 9, WRITE), 0);
            due("one was dropped", x.count(8), 1);
            due("BOARD " + size + " is full again", x.count(2), size);
            due("the last note is the new one", x.note(size - 1, 1), 9);
            due("no note more", x.note(size, 1), NO_SUCH);
            due("the first one", x.note(0, 1), size == 1 ? 9 : 1);
            due("flush", x.flush(), size);
        }
    }

    private static void fullPad() {
        VisaPages x = Houses.fresh();
        due("79", Due.putText(x, "o1=2;".repeat(15) + "o1=2"), 79);
        due("no fault", x.fault(), NONE);
        due("80", x.put(';'), 80);
        due("a fault at the end", x.fault(), 80);
        due("81", x.put('t'), TOO_MANY);
        due("it stays", x.fault(), 80);
        due("carryOut", x.carryOut(), BAD_TEXT);
        due("wipe", x.wipe(), 80);
        due("80 without a fault", Due.putText(x, "o1=2;".repeat(14) + "t0;o1=-;t0"), 80);
        due("no fault", x.fault(), NONE);
        due("carryOut: t0 is an error", x.carryOut(), 14);
        due("empty", x.count(13), 0);
        VisaPages y = Houses.stamped(40);
        due("80 characters", Due.putText(y, "t39;".repeat(19) + "t38;"), 80);
        due("a fault", y.fault(), 80);
        y.wipe();
        due("80 characters of one kind", Due.putText(y, "?1.0r;".repeat(13) + "t1"), 80);
        due("all of them", y.carryOut(), 14);
        due("came", y.count(4), 13);
        due("helped", y.count(5), 12);
        due("steps", y.count(6), 13);
        due("taken back", y.ofStamp(1, 6), 1);
    }

    private static void sixStates() {
        for (int changes = 0; changes <= 15; changes++) {
            VisaPages x = Houses.fresh();
            for (int change = 0; change < changes; change++) {
                x.own(change % 12, change % 5);
            }
            int kept = Math.min(6, changes);
            due(changes + " changes: history", x.count(14), kept);
            for (int left = kept - 1; left >= 0; left--) {
                due(changes + " changes: undo", x.undo(), left);
                due("history", x.count(14), left);
            }
            due(changes + " changes: no more", x.undo(), NOT_POSSIBLE);
            VisaPages twin = Houses.fresh();
            for (int change = 0; change < changes - kept; change++) {
                twin.own(change % 12, change % 5);
            }
            Due.same(changes + " changes: the oldest state", Due.told(x), Due.told(twin));
        }
    }

    /** Each kind of change is recorded as the seventh one, so that the first one can't be undone any more. */
    private static void eachChangeAsTheSeventh() {
        Houses.Call[] changes = {
            x -> x.set(0, 4), x -> x.own(11, 0), x -> x.own(11, 3), x -> x.stamp(0, 1, 0, 7), x -> x.pass(0, 1, 7),
            x -> x.forge(0, 1, 0, 7, NONE), x -> x.takeBack(0), x -> x.door(1, 1, 0), x -> x.door(1, 1, NONE),
            x -> x.come(1, 1, READ), x -> x.flush(), x -> Due.putText(x, "t0") * 0 + x.carryOut(),
            x -> Due.putText(x, "t9") * 0 + x.carryOut(), x -> x.restore(0), x -> x.restore(1),
        };
        for (int kind = 0; kind < changes.length; kind++) {
            VisaPages x = sixChanges();
            due("change " + kind, changes[kind].on(x) >= 0 ? 1 : 0, 1);
            due("change " + kind + ": history", x.count(14), 6);
            for (int left = 5; left >= 0; left--) {
                due("change " + kind + ": undo", x.undo(), left);
                due("change " + kind + ": undone", x.count(0), left + 1);
            }
            due("change " + kind + ": no more", x.undo(), NOT_POSSIBLE);
        }
    }

    /** Six changes in the history, after each of which there is a stamp more, and both slots saved before them. */
    private static VisaPages sixChanges() {
        VisaPages x = Houses.fresh();
        x.own(0, 0);
        x.save(0);
        x.save(1);
        for (int stamp = 0; stamp < 6; stamp++) {
            x.stamp(0, 1, 0, 7);
        }
        return x;
    }

    /** Where the history was full, undone and filled again, more than once. */
    private static void seventhState() {
        VisaPages x = Houses.fresh();
        for (int page = 0; page < 12; page++) {
            x.own(page, 1);
        }
        for (int back = 1; back <= 6; back++) {
            for (int time = 0; time < back; time++) {
                due("undo " + back, x.undo(), 5 - time);
            }
            due("undone to " + (12 - back), x.ofPage(12 - back, 0), NONE);
            due("and not farther", x.ofPage(11 - back, 0), 1);
            for (int page = 12 - back; page < 12; page++) {
                x.own(page, 1);
            }
            due("filled again", x.count(14), 6);
        }
        x.undo();
        x.own(0, 3);
        due("another way from here", x.undo(), 5);
        due("undone", x.ofPage(0, 0), 1);
        due("the change before", x.undo(), 4);
        due("undone", x.ofPage(10, 0), NONE);
    }

    private static void slotsAreOverwritten() {
        VisaPages x = Houses.fresh();
        x.own(0, 0);
        for (int stamps = 0; stamps < 40; stamps++) {
            due("save(0)", x.save(0), stamps);
            due("save(1)", x.save(1), stamps);
            x.stamp(0, 1, 0, 7);
        }
        due("the last of what was saved", x.restore(0), 39);
        due("in both", x.restore(1), 39);
        x.takeBack(3);
        due("overwritten", x.save(1), 39);
        due("the other one was not", x.restore(0) * 0 + x.ofStamp(3, 6), 0);
        due("this one was", x.restore(1) * 0 + x.ofStamp(3, 6), 1);
        due("and stays", x.restore(1) * 0 + x.ofStamp(3, 6), 1);
    }

    private static void slotsAndHistoryApart() {
        VisaPages x = Houses.busy();
        String before = Due.told(Houses.busy());
        int history = x.count(14);
        x.save(0);
        due("save is no change", x.count(14), history);
        x.takeBack(0);
        x.set(VisaPages.BOARD, 1);
        x.undo();
        x.undo();
        x.own(3, 3);
        due("restore", x.restore(0), 8);
        Due.same("what was saved", Due.told(x), before);
        VisaPages y = Houses.busy();
        y.restore(0);
        due("undo of restore", y.undo(), 5);
        Due.same("is the state before", Due.told(y), before);
        VisaPages z = Houses.busy();
        z.restore(1);
        z.restore(1);
        due("restore is a change also if nothing is different then", z.count(14), 6);
        due("undo", z.undo(), 5);
        due("stamps", z.count(0), 7);
        due("undo", z.undo(), 4);
        due("stamps", z.count(0), 8);
    }
}
