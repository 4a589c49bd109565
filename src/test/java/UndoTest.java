/** Promises 25 to 27: undo, saving; and that each change records, and no error does. */
public final class UndoTest {
    private static final int BAD_VALUE = VisaPages.BAD_VALUE, NOT_POSSIBLE = VisaPages.NOT_POSSIBLE;
    private static final int NONE = VisaPages.NONE;

    private static void due(String call, long got, long want) {
        Due.due(call, got, want);
    }

    public static void main(String[] args) {
        promise25Undo();
        promise25History();
        promise25EachChange();
        promise25NotThePadAndSlots();
        promise26Save();
        promise27Restore();
        promise27RestoreAll();
        promise27OtherNumbers();
        stampsMadeAgain();
        Due.end("UndoTest");
    }

    /** The state is that of a house with so many of the changes of promise25Undo(). */
    private static void same(String call, VisaPages x, int changes) {
        VisaPages twin = new VisaPages();
        if (changes > 0) {
            twin.own(0, 0);
        }
        if (changes > 1) {
            twin.stamp(0, 1, 0, 7);
        }
        Due.same(call, Due.told(x), Due.told(twin));
    }

    private static void promise25Undo() {
        VisaPages x = new VisaPages();
        due("25: none", x.undo(), NOT_POSSIBLE);
        x.own(0, 0);
        x.stamp(0, 1, 0, 7);
        x.door(1, 0, 0);
        x.come(1, 0, VisaPages.READ);
        due("25: undo come", x.undo(), 3);
        due("25: visits are undone", x.count(4), 0);
        due("25: notes are undone", x.count(2), 0);
        due("25: steps are undone", x.count(6), 0);
        due("25: the guest in the house, too", x.count(3), 0);
        due("25: undo door", x.undo(), 2);
        same("25: door", x, 2);
        due("25: undo stamp", x.undo(), 1);
        same("25: stamp", x, 1);
        due("25: undo own", x.undo(), 0);
        same("25: own", x, 0);
        due("25: no more", x.undo(), NOT_POSSIBLE);
    }

    private static void promise25History() {
        VisaPages x = new VisaPages();
        for (int page = 0; page < 9; page++) {
            x.own(page, 1);
            due("25: history", x.count(14), Math.min(page + 1, 6));
        }
        for (int left = 5; left >= 0; left--) {
            due("25: undo", x.undo(), left);
            due("25: undone", x.ofPage(left + 3, 0), NONE);
            due("25: not the one before", x.ofPage(left + 2, 0), 1);
        }
        due("25: the oldest were dropped", x.undo(), NOT_POSSIBLE);
        due("25: the state stays", x.ofPage(2, 0), 1);
        x.own(4, 2);
        x.own(4, 3);
        due("25: undo after undo", x.undo(), 1);
        due("25: state", x.ofPage(4, 0), 2);
        x.own(5, 5);
        due("25: another way", x.undo(), 1);
        due("25: state", x.ofPage(5, 0), NONE);
        due("25: state", x.undo() + x.ofPage(4, 0), NONE);
    }

    private static VisaPages ready() {
        VisaPages x = new VisaPages();
        Due.putText(x, "o0=0;s0>1:0*7;d1.0=0;?1.0r;d1.1=0;?1.1w");
        due("ready", x.carryOut(), 6);
        x.save(0);
        return x;
    }

    private static int change(VisaPages x, int kind) {
        switch (kind) {
            case 0: return x.set(0, 1);
            case 1: return x.own(0, 2);
            case 2: return x.stamp(0, 2, 0, 1);
            case 3: return x.pass(0, 2, 1);
            case 4: return x.forge(0, 2, 0, 1, 0);
            case 5: return x.takeBack(0);
            case 6: return x.door(1, 0, NONE);
            case 7: return x.come(2, 0, VisaPages.READ);
            case 8: return x.flush();
            case 9: Due.putText(x, "t0;o5=5"); return x.carryOut();
            case 10: return x.restore(0);
            case 11: return x.set(0, 4);
            case 12: return x.own(0, 0);
            case 13: return x.door(1, 0, 0);
            case 14: x.wipe(); Due.putText(x, "t9"); return x.carryOut();
            default: x.wipe(); Due.putText(x, "?1.0r;?1.0w;o3=3"); return x.carryOut();
        }
    }

    private static int error(VisaPages x, int kind) {
        switch (kind) {
            case 0: return x.set(0, 9);
            case 1: return x.own(12, 2);
            case 2: return x.stamp(1, 2, 0, 1);
            case 3: return x.pass(1, 2, 1);
            case 4: return x.forge(0, 2, 0, 8, 0);
            case 5: return x.takeBack(1);
            case 6: return x.door(1, 10, NONE);
            case 7: return x.come(2, 0, 3);
            case 8: return x.carryOut();
            case 9: return x.restore(1);
            case 10: return x.restore(2);
            case 11: return x.save(2);
            default: Due.putText(x, "t"); return x.carryOut();
        }
    }

    private static void promise25EachChange() {
        for (int kind = 0; kind < 16; kind++) {
            VisaPages x = ready();
            String before = Due.told(x);
            due("25: change " + kind + " succeeds", change(x, kind) >= 0 ? 1 : 0, 1);
            due("25: change " + kind + " records", x.count(14), 2);
            due("25: change " + kind + " is undone", x.undo(), 1);
            Due.same("25: change " + kind, Due.told(x), before);
        }
        for (int kind = 0; kind < 13; kind++) {
            VisaPages x = ready();
            String before = Due.told(x);
            due("25: error " + kind, error(x, kind) < 0 ? 1 : 0, 1);
            due("25: error " + kind + " records nothing", x.count(14), 1);
            Due.same("25: error " + kind, Due.told(x), before);
            due("25: the change before is undone", x.undo(), 0);
            due("25: it was that one", x.count(0), 0);
        }
        VisaPages x = new VisaPages();
        for (int page = 0; page < 7; page++) {
            x.own(page, 3);
        }
        for (int kind = 0; kind < 13; kind++) {
            error(x, kind);
        }
        for (int left = 5; left >= 0; left--) {
            due("25: errors leave a full history", x.undo(), left);
        }
        due("25: the oldest state that is kept", x.ofPage(0, 0) + x.ofPage(1, 0), 3 + NONE);
        VisaPages y = ready();
        y.save(1);
        y.walk(0, 0, 1, 0);
        y.put('t');
        y.fault();
        y.wipe();
        y.longest();
        due("25: these are no changes", y.count(14), 1);
    }

    private static void promise25NotThePadAndSlots() {
        VisaPages x = ready();
        x.own(1, 1);
        Due.putText(x, "t0;");
        x.save(1);
        due("25: undo", x.undo(), 1);
        due("25: the pad stays", x.count(13), 3);
        due("25: the slot stays", x.restore(1), 1);
        due("25: with what it had", x.ofPage(1, 0), 1);
    }

    private static void promise26Save() {
        VisaPages x = new VisaPages();
        due("26: save(0)", x.save(0), 0);
        due("26: it is no change", x.count(14), 0);
        x.own(0, 0);
        x.stamp(0, 1, 0, 7);
        due("26: save(1)", x.save(1), 1);
        x.stamp(0, 1, 0, 7);
        due("26: overwritten", x.save(1), 2);
        for (int bad : new int[] {-1, 2, NONE, Integer.MIN_VALUE, Integer.MAX_VALUE}) {
            due("26: slot " + bad, x.save(bad), BAD_VALUE);
        }
        due("26: history", x.count(14), 3);
        due("26: restore(0)", x.restore(0), 0);
        due("26: restore(1)", x.restore(1), 2);
    }

    private static void promise27Restore() {
        VisaPages x = new VisaPages();
        due("27: nothing in 0", x.restore(0), NOT_POSSIBLE);
        due("27: nothing in 1", x.restore(1), NOT_POSSIBLE);
        for (int bad : new int[] {-1, 2, NONE, Integer.MIN_VALUE, Integer.MAX_VALUE}) {
            due("27: slot " + bad, x.restore(bad), BAD_VALUE);
        }
        x.save(1);
        due("27: still nothing in 0", x.restore(0), NOT_POSSIBLE);
        due("27: errors are no changes", x.count(14), 0);
        x.own(0, 0);
        x.stamp(0, 1, 0, 7);
        x.put('t');
        due("27: restore(1)", x.restore(1), 0);
        due("27: it is a change", x.count(14), 3);
        due("27: the pad stays", x.count(13), 1);
        due("27: the state", x.ofPage(0, 0), NONE);
        due("27: undo", x.undo(), 2);
        due("27: undone", x.count(0), 1);
        due("27: the slot keeps it", x.restore(1), 0);
        x.own(3, 3);
        due("27: later changes do not reach it", x.restore(1) + x.ofPage(3, 0), NONE);
    }

    private static void promise27RestoreAll() {
        VisaPages x = ready();
        x.set(VisaPages.KEEP, 1);
        x.come(1, 0, VisaPages.READ);
        x.come(4, 0, VisaPages.READ);
        x.set(VisaPages.BOARD, 1);
        x.forge(2, 3, 4, 5, 0);
        String saved = Due.told(x);
        due("27: save", x.save(1), 2);
        due("27: the older slot", x.restore(0), 1);
        x.set(VisaPages.NAMES, 0);
        x.set(VisaPages.WIPE, 0);
        x.takeBack(0);
        x.own(0, 3);
        x.come(5, 5, VisaPages.WRITE);
        due("27: restore", x.restore(1), 2);
        Due.same("27: all of it", Due.told(x), saved);
    }

    /** What a slot and the history have is theirs, also when other stamps and notes took the same numbers since. */
    private static VisaPages otherNumbers(int steps) {
        VisaPages x = new VisaPages();
        x.set(VisaPages.WIPE, 1);
        Due.putText(x, "o0=0;s0>1:0*7;p0>2*5;p1>3*1;d1.4=0;d2.6=1;?1.4r;?2.6r");
        due("27: orders", x.carryOut(), 8);
        x.forge(4, 5, 9, 6, 1);
        x.takeBack(3);
        due("27: save", x.save(0), 4);
        for (int undone = 0; steps > 0 && undone < 3; undone++) {
            x.undo();
        }
        if (steps > 0) {
            Due.putText(x, "o5=5;s5>4:5*2;s5>3:5*3;s5>0:5*7;s5>2:5*3;d4.1=0;d3.2=1;?4.1w;?3.2w;t2");
            due("27: other orders", x.carryOut(), 10);
        }
        if (steps > 1) {
            due("27: restore", x.restore(0), 4);
        }
        if (steps > 2) {
            due("27: undo", x.undo(), 2);
        }
        return x;
    }

    private static void promise27OtherNumbers() {
        Due.same("27: the slot", Due.told(otherNumbers(2)), Due.told(otherNumbers(0)));
        Due.same("27: the history", Due.told(otherNumbers(3)), Due.told(otherNumbers(1)));
    }

    /** A row of an undone stamp may not show in the one that takes its number. */
    private static void stampsMadeAgain() {
        VisaPages x = ready();
        x.forge(5, 5, 5, 5, 0);
        x.takeBack(1);
        x.undo();
        x.undo();
        due("25: the number again", x.stamp(0, 2, 0, 3), 1);
        int[] tells = {0, 0, 2, 3, NONE, 0, 0, 1, 1, 0};
        for (int what = 0; what < tells.length; what++) {
            due("25: ofStamp(1, " + what + ")", x.ofStamp(1, what), tells[what]);
        }
    }
}
