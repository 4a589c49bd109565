/** Promises 1 to 10: a new object and the changes. */
public final class ChangesTest {
    private static final int NO_SUCH = VisaPages.NO_SUCH, BAD_VALUE = VisaPages.BAD_VALUE;
    private static final int TOO_MANY = VisaPages.TOO_MANY, NOT_POSSIBLE = VisaPages.NOT_POSSIBLE;
    private static final int NONE = VisaPages.NONE;
    private static final int[] FAR = {-1, NONE, Integer.MIN_VALUE, Integer.MAX_VALUE};

    private static void due(String call, long got, long want) {
        Due.due(call, got, want);
    }

    public static void main(String[] args) {
        promise1NewObject();
        promise2Set();
        promise2SetDropsNotes();
        promise3Own();
        promise3OwnWipes();
        promise4Stamp();
        promise5Pass();
        promise5PassNeedsGoodStamp();
        promise6Forge();
        promise7TakeBack();
        promise7TakeBackWipes();
        promise8Door();
        promise9ComeReasons();
        promise9ComeOrderOfReasons();
        promise9ComeNotes();
        promise9ComeNames();
        promise10Flush();
        Due.end("ChangesTest");
    }

    private static void promise1NewObject() {
        VisaPages x = new VisaPages();
        for (int what = 0; what <= 8; what++) {
            due("1: count(" + what + ")", x.count(what), 0);
        }
        due("1: BOARD", x.count(9), 4);
        due("1: NAMES", x.count(10), 1);
        due("1: WIPE", x.count(11), 2);
        due("1: KEEP", x.count(12), 0);
        due("1: pad", x.count(13), 0);
        due("1: history", x.count(14), 0);
        for (int page = 0; page < 12; page++) {
            due("1: owner", x.ofPage(page, 0), NONE);
        }
        for (int guest = 0; guest < 6; guest++) {
            for (int door = 0; door < 10; door++) {
                due("1: leads", x.leads(guest, door), NONE);
            }
        }
        for (int reason = 0; reason < 7; reason++) {
            due("1: ended", x.ended(reason), 0);
        }
        due("1: undo", x.undo(), NOT_POSSIBLE);
        due("1: restore(0)", x.restore(0), NOT_POSSIBLE);
        due("1: restore(1)", x.restore(1), NOT_POSSIBLE);
        due("1: longest", x.longest(), NONE);
        x.own(0, 0);
        due("1: another object has its own state", new VisaPages().ofPage(0, 0), NONE);
    }

    private static void promise2Set() {
        VisaPages x = new VisaPages();
        due("2: set(0, 8)", x.set(VisaPages.BOARD, 8), 4);
        due("2: set(0, 1)", x.set(VisaPages.BOARD, 1), 8);
        due("2: set(1, 0)", x.set(VisaPages.NAMES, 0), 1);
        due("2: set(1, 1)", x.set(VisaPages.NAMES, 1), 0);
        due("2: set(2, 0)", x.set(VisaPages.WIPE, 0), 2);
        due("2: set(2, 1)", x.set(VisaPages.WIPE, 1), 0);
        due("2: set(3, 1)", x.set(VisaPages.KEEP, 1), 0);
        due("2: set(3, 1) again", x.set(VisaPages.KEEP, 1), 1);
        due("2: each is a change, but 6 are kept", x.count(14), 6);
        int[][] wrong = {{0, 0}, {0, 9}, {0, -1}, {1, -1}, {1, 2}, {2, -1}, {2, 3}, {3, -1}, {3, 2}, {4, 0}, {4, 1}, {-1, 1}};
        for (int[] w : wrong) {
            due("2: set(" + w[0] + ", " + w[1] + ")", x.set(w[0], w[1]), BAD_VALUE);
        }
        for (int far : FAR) {
            due("2: set(" + far + ", 1)", x.set(far, 1), BAD_VALUE);
            due("2: set(0, " + far + ")", x.set(0, far), BAD_VALUE);
        }
        due("2: BOARD stays", x.count(9), 1);
        due("2: WIPE stays", x.count(11), 1);
        VisaPages y = new VisaPages();
        y.set(4, 0);
        due("2: an error is no change", y.count(14), 0);
    }

    /** Guest 0 owns page 0, guest 1 has doors 0 to 7 with stamp 0 for it, and notes of the first ones. */
    private static VisaPages withNotes(int notes) {
        VisaPages x = new VisaPages();
        x.own(0, 0);
        x.stamp(0, 1, 0, 7);
        x.set(VisaPages.BOARD, 8);
        for (int door = 0; door < notes; door++) {
            x.door(1, door, 0);
            due("come for a note", x.come(1, door, VisaPages.READ), 0);
        }
        due("notes", x.count(2), notes);
        return x;
    }

    private static void promise2SetDropsNotes() {
        VisaPages x = withNotes(8);
        due("2: set(0, 8) drops none", x.set(0, 8), 8);
        due("2: dropped", x.count(8), 0);
        due("2: set(0, 3)", x.set(0, 3), 8);
        due("2: notes", x.count(2), 3);
        due("2: the first ones are dropped", x.note(0, 1), 5);
        due("2: the last one stays the last", x.note(2, 1), 7);
        due("2: dropped", x.count(8), 5);
        due("2: not wiped", x.count(7), 0);
        due("2: set(1, 0) drops none", x.set(1, 0), 1);
        due("2: notes", x.count(2), 3);
    }

    private static void promise3Own() {
        VisaPages x = new VisaPages();
        due("3: own(0, 5)", x.own(0, 5), 0);
        due("3: own(11, 0)", x.own(11, 0), 0);
        due("3: owner of 0", x.ofPage(0, 0), 5);
        due("3: owner of 11", x.ofPage(11, 0), 0);
        due("3: own(0, NONE)", x.own(0, NONE), 0);
        due("3: owner of 0", x.ofPage(0, 0), NONE);
        due("3: own(0, NONE) again", x.own(0, NONE), 0);
        due("3: it is a change each time", x.count(14), 4);
        for (int far : new int[] {-1, 12, Integer.MIN_VALUE, Integer.MAX_VALUE, NONE}) {
            due("3: own(" + far + ", 0)", x.own(far, 0), NO_SUCH);
        }
        for (int far : new int[] {-1, 6, -5, -7, Integer.MIN_VALUE, Integer.MAX_VALUE}) {
            due("3: own(0, " + far + ")", x.own(0, far), NO_SUCH);
        }
        due("3: an error is no change", x.count(14), 4);
    }

    /** Pages 0 and 1 of guest 0, each with a note: of guest 1 for page 0, of guest 2 for page 1. */
    private static VisaPages twoPages(int wipe) {
        VisaPages x = new VisaPages();
        x.own(0, 0);
        x.own(1, 0);
        x.stamp(0, 1, 0, 7);
        x.stamp(0, 2, 1, 7);
        x.door(1, 0, 0);
        x.door(2, 0, 1);
        x.come(1, 0, VisaPages.READ);
        x.come(2, 0, VisaPages.WRITE);
        x.set(VisaPages.WIPE, wipe);
        due("notes", x.count(2), 2);
        return x;
    }

    private static void promise3OwnWipes() {
        VisaPages x = twoPages(0);
        due("3: WIPE 0, the same owner", x.own(0, 0), 0);
        due("3: WIPE 0, a page without notes", x.own(7, 3), 2);
        due("3: wiped", x.count(7), 2);
        due("3: notes", x.count(2), 0);
        x = twoPages(1);
        due("3: WIPE 1, the same owner", x.own(0, 0), 0);
        due("3: WIPE 1, a page without notes", x.own(7, 3), 0);
        due("3: WIPE 1", x.own(0, NONE), 1);
        due("3: the other note stays", x.note(0, 3), 1);
        due("3: wiped", x.count(7), 1);
        x = twoPages(2);
        due("3: WIPE 2, the same owner", x.own(1, 0), 0);
        due("3: WIPE 2", x.own(1, 4), 1);
        due("3: the other note stays", x.note(0, 0), 1);
        due("3: back to the owner", x.own(1, 0), 0);
        due("3: its stamps are good again", x.ofStamp(1, 7), 1);
    }

    private static void promise4Stamp() {
        VisaPages x = new VisaPages();
        x.own(3, 2);
        due("4: the first one", x.stamp(2, 5, 3, 1), 0);
        due("4: the next one, to oneself", x.stamp(2, 2, 3, 7), 1);
        int[] tells = {3, 2, 5, 1, NONE, 0, 0, 1, 1, 0};
        for (int what = 0; what < tells.length; what++) {
            due("4: ofStamp(0, " + what + ")", x.ofStamp(0, what), tells[what]);
        }
        due("4: history", x.count(14), 3);
        for (int far : new int[] {-1, 6, NONE, Integer.MIN_VALUE, Integer.MAX_VALUE}) {
            due("4: giver " + far, x.stamp(far, 5, 3, 1), NO_SUCH);
            due("4: guest " + far, x.stamp(2, far, 3, 1), NO_SUCH);
            due("4: NO_SUCH before BAD_VALUE", x.stamp(far, 5, 3, 0), NO_SUCH);
        }
        for (int far : new int[] {-1, 12, Integer.MIN_VALUE, Integer.MAX_VALUE}) {
            due("4: page " + far, x.stamp(2, 5, far, 1), NO_SUCH);
            due("4: NO_SUCH before BAD_VALUE", x.stamp(2, 5, far, 8), NO_SUCH);
        }
        for (int bad : new int[] {0, 8, -1, 9, Integer.MIN_VALUE, Integer.MAX_VALUE}) {
            due("4: rights " + bad, x.stamp(2, 5, 3, bad), BAD_VALUE);
            due("4: BAD_VALUE before NOT_POSSIBLE", x.stamp(1, 5, 3, bad), BAD_VALUE);
        }
        due("4: not the owner", x.stamp(1, 5, 3, 1), NOT_POSSIBLE);
        due("4: nobody owns it", x.stamp(2, 5, 4, 1), NOT_POSSIBLE);
        due("4: errors are no changes", x.count(14), 3);
        due("4: errors make no stamps", x.count(0), 2);
        for (int number = 2; number < 40; number++) {
            due("4: number", x.stamp(2, 1, 3, 7), number);
        }
        due("4: 40 stamps", x.stamp(2, 1, 3, 7), TOO_MANY);
        due("4: TOO_MANY before NOT_POSSIBLE", x.stamp(1, 1, 3, 7), TOO_MANY);
        due("4: BAD_VALUE before TOO_MANY", x.stamp(2, 1, 3, 8), BAD_VALUE);
        due("4: NO_SUCH before TOO_MANY", x.stamp(2, 6, 3, 7), NO_SUCH);
        x.takeBack(0);
        due("4: one that was taken back counts", x.stamp(2, 1, 3, 7), TOO_MANY);
        due("4: stamps", x.count(0), 40);
    }

    private static void promise5Pass() {
        VisaPages x = new VisaPages();
        x.own(3, 0);
        x.stamp(0, 1, 3, 5);
        due("5: pass", x.pass(0, 2, 4), 1);
        int[] tells = {3, 1, 2, 4, 0, 0, 0, 1, 2, 0};
        for (int what = 0; what < tells.length; what++) {
            due("5: ofStamp(1, " + what + ")", x.ofStamp(1, what), tells[what]);
        }
        due("5: the same rights, to oneself", x.pass(0, 1, 5), 2);
        due("5: a right that it lacks", x.pass(0, 2, 2), NOT_POSSIBLE);
        due("5: some rights that it lacks", x.pass(0, 2, 7), NOT_POSSIBLE);
        due("5: rights that were not passed", x.pass(1, 3, 1), NOT_POSSIBLE);
        due("5: on from there", x.pass(1, 3, 4), 3);
        x.stamp(0, 4, 3, 3);
        due("5: without GIVE", x.pass(4, 5, 1), NOT_POSSIBLE);
        for (int far : new int[] {-1, 5, 40, NONE, Integer.MIN_VALUE, Integer.MAX_VALUE}) {
            due("5: stamp " + far, x.pass(far, 2, 4), NO_SUCH);
        }
        for (int far : new int[] {-1, 6, NONE, Integer.MIN_VALUE, Integer.MAX_VALUE}) {
            due("5: guest " + far, x.pass(0, far, 4), NO_SUCH);
            due("5: NO_SUCH before BAD_VALUE", x.pass(0, far, 0), NO_SUCH);
        }
        for (int bad : new int[] {0, 8, -1, 12, Integer.MIN_VALUE, Integer.MAX_VALUE}) {
            due("5: rights " + bad, x.pass(0, 2, bad), BAD_VALUE);
            due("5: BAD_VALUE before NOT_POSSIBLE", x.pass(4, 2, bad), BAD_VALUE);
        }
        due("5: errors make no stamps", x.count(0), 5);
        for (int number = 5; number < 40; number++) {
            due("5: a long chain", x.pass(number == 5 ? 0 : number - 1, number % 6, 5), number);
        }
        due("5: it is good", x.ofStamp(39, 7), 1);
        due("5: 40 stamps", x.pass(0, 2, 4), TOO_MANY);
        due("5: TOO_MANY before NOT_POSSIBLE", x.pass(4, 2, 7), TOO_MANY);
        due("5: BAD_VALUE before TOO_MANY", x.pass(0, 2, 8), BAD_VALUE);
        due("5: NO_SUCH before TOO_MANY", x.pass(40, 2, 4), NO_SUCH);
    }

    private static void promise5PassNeedsGoodStamp() {
        VisaPages x = new VisaPages();
        x.own(3, 0);
        x.stamp(0, 1, 3, 7);
        x.pass(0, 2, 7);
        x.forge(0, 3, 3, 7, NONE);
        due("5: a forged one", x.pass(2, 4, 1), NOT_POSSIBLE);
        x.own(3, 5);
        due("5: the page changed hands", x.pass(0, 4, 1), NOT_POSSIBLE);
        due("5: so did that of its root", x.pass(1, 4, 1), NOT_POSSIBLE);
        x.own(3, 0);
        due("5: and back", x.pass(1, 4, 1), 3);
        x.takeBack(0);
        due("5: taken back", x.pass(0, 4, 1), NOT_POSSIBLE);
        due("5: its root was", x.pass(1, 4, 1), NOT_POSSIBLE);
        due("5: history", x.count(14), 6);
    }

    private static void promise6Forge() {
        VisaPages x = new VisaPages();
        due("6: nobody owns the page", x.forge(5, 0, 11, 3, NONE), 0);
        due("6: with a root for another page", x.forge(0, 0, 2, 7, 0), 1);
        int[] tells = {2, 0, 0, 7, 0, 1, 0, 0, 2, 0};
        for (int what = 0; what < tells.length; what++) {
            due("6: ofStamp(1, " + what + ")", x.ofStamp(1, what), tells[what]);
        }
        due("6: no root", x.ofStamp(0, 4), NONE);
        due("6: history", x.count(14), 2);
        for (int far : new int[] {-1, 6, NONE, Integer.MIN_VALUE, Integer.MAX_VALUE}) {
            due("6: giver " + far, x.forge(far, 0, 2, 7, 0), NO_SUCH);
            due("6: guest " + far, x.forge(0, far, 2, 7, 0), NO_SUCH);
        }
        for (int far : new int[] {-1, 12, NONE, Integer.MIN_VALUE, Integer.MAX_VALUE}) {
            due("6: page " + far, x.forge(0, 0, far, 7, 0), NO_SUCH);
        }
        for (int far : new int[] {-1, 2, -5, -7, 40, Integer.MIN_VALUE, Integer.MAX_VALUE}) {
            due("6: root " + far, x.forge(0, 0, 2, 7, far), NO_SUCH);
            due("6: NO_SUCH before BAD_VALUE", x.forge(0, 0, 2, 0, far), NO_SUCH);
        }
        for (int bad : new int[] {0, 8, -1, Integer.MIN_VALUE, Integer.MAX_VALUE}) {
            due("6: rights " + bad, x.forge(0, 0, 2, bad, 0), BAD_VALUE);
        }
        due("6: an error is no change", x.count(14), 2);
        x.own(4, 0);
        due("6: the owner's own name does not help", x.forge(0, 1, 4, 1, NONE), 2);
        due("6: it is not good", x.ofStamp(2, 7), 0);
        for (int number = 3; number < 40; number++) {
            due("6: number", x.forge(0, 1, 4, 1, number - 1), number);
        }
        due("6: 40 stamps", x.forge(0, 1, 4, 1, NONE), TOO_MANY);
        due("6: BAD_VALUE before TOO_MANY", x.forge(0, 1, 4, 0, NONE), BAD_VALUE);
        due("6: NO_SUCH before TOO_MANY", x.forge(0, 1, 4, 1, 40), NO_SUCH);
    }

    private static void promise7TakeBack() {
        VisaPages x = new VisaPages();
        due("7: no stamps", x.takeBack(0), NO_SUCH);
        x.own(0, 0);
        x.stamp(0, 1, 0, 7);
        x.pass(0, 2, 7);
        x.forge(0, 2, 0, 7, NONE);
        due("7: takeBack(0)", x.takeBack(0), 0);
        due("7: it was", x.ofStamp(0, 6), 1);
        due("7: it is not good", x.ofStamp(0, 7), 0);
        due("7: the one that was given on was not", x.ofStamp(1, 6), 0);
        due("7: but is not good", x.ofStamp(1, 7), 0);
        due("7: a forged one", x.takeBack(2), 0);
        due("7: again", x.takeBack(0), NOT_POSSIBLE);
        due("7: history", x.count(14), 6);
        for (int far : new int[] {-1, 3, 40, NONE, Integer.MIN_VALUE, Integer.MAX_VALUE}) {
            due("7: stamp " + far, x.takeBack(far), NO_SUCH);
        }
        due("7: for good", x.own(0, 1) + x.own(0, 0) + x.ofStamp(0, 7), 0);
    }

    private static void promise7TakeBackWipes() {
        VisaPages x = twoPages(0);
        x.forge(3, 3, 9, 1, NONE);
        due("7: WIPE 0, a forged one", x.takeBack(2), 2);
        due("7: wiped", x.count(7), 2);
        x = twoPages(1);
        x.forge(3, 3, 1, 1, NONE);
        due("7: WIPE 1, a forged one of the page", x.takeBack(2), 1);
        due("7: the note of the other page stays", x.note(0, 3), 0);
        due("7: WIPE 1", x.takeBack(0), 1);
        due("7: notes", x.count(2), 0);
        x = twoPages(2);
        x.forge(3, 3, 1, 1, NONE);
        due("7: WIPE 2, a forged one", x.takeBack(2), 0);
        x.pass(0, 3, 5);
        x.door(3, 4, 3);
        due("7: a note by a passed one", x.come(3, 4, VisaPages.READ), 0);
        x.stamp(0, 1, 0, 7);
        due("7: WIPE 2, one that no door leads by", x.takeBack(4), 0);
        due("7: WIPE 2, with those given on", x.takeBack(0), 2);
        due("7: the note of the other page stays", x.note(0, 3), 1);
        due("7: with its guest", x.note(0, 0), 2);
        due("7: with its need", x.note(0, 2), VisaPages.WRITE);
        due("7: wiped", x.count(7), 2);
    }

    private static void promise8Door() {
        VisaPages x = withNotes(2);
        x.come(1, 0, VisaPages.WRITE);
        x.stamp(0, 1, 0, 7);
        due("8: notes", x.count(2), 3);
        due("8: the same stamp", x.door(1, 0, 0), 0);
        due("8: the same number, another guest", x.door(2, 0, 0), 0);
        due("8: another stamp", x.door(1, 0, 1), 2);
        due("8: it leads by it", x.leads(1, 0), 1);
        due("8: the other door's note stays", x.note(0, 1), 1);
        due("8: wiped", x.count(7), 2);
        due("8: shut", x.door(1, 1, NONE), 1);
        due("8: it is shut", x.leads(1, 1), NONE);
        due("8: shut again", x.door(1, 1, NONE), 0);
        due("8: wiped", x.count(7), 3);
        due("8: a stamp of somebody else", x.door(5, 9, 0), 0);
        due("8: it leads by it", x.leads(5, 9), 0);
        int history = x.count(14);
        for (int far : new int[] {-1, 6, NONE, Integer.MIN_VALUE, Integer.MAX_VALUE}) {
            due("8: guest " + far, x.door(far, 0, 0), NO_SUCH);
        }
        for (int far : new int[] {-1, 10, NONE, Integer.MIN_VALUE, Integer.MAX_VALUE}) {
            due("8: door " + far, x.door(0, far, 0), NO_SUCH);
        }
        for (int far : new int[] {-1, 2, -5, -7, 40, Integer.MIN_VALUE, Integer.MAX_VALUE}) {
            due("8: stamp " + far, x.door(0, 0, far), NO_SUCH);
        }
        due("8: errors are no changes", x.count(14), history);
        VisaPages y = new VisaPages();
        y.door(0, 0, NONE);
        y.door(0, 0, 0);
        due("8: it is a change, an error is none", y.count(14), 1);
    }

    private static void promise9ComeReasons() {
        VisaPages x = new VisaPages();
        x.own(0, 0);
        x.stamp(0, 1, 0, 5);
        x.pass(0, 2, 5);
        x.forge(0, 3, 0, 7, NONE);
        x.stamp(0, 4, 0, 3);
        due("9: shut", x.come(1, 0, VisaPages.READ), 1);
        due("9: no step", x.count(6), 0);
        x.door(1, 0, 0);
        x.door(2, 0, 1);
        x.door(3, 0, 2);
        x.door(4, 0, 3);
        x.door(5, 0, 0);
        due("9: seen", x.come(2, 0, VisaPages.READ), 0);
        due("9: two steps", x.count(6), 2);
        due("9: not the holder", x.come(5, 0, VisaPages.READ), 2);
        due("9: forged", x.come(3, 0, VisaPages.READ), 3);
        due("9: no need", x.come(1, 0, VisaPages.WRITE), 5);
        due("9: a step each", x.count(6), 5);
        due("9: to write", x.come(4, 0, VisaPages.WRITE), 0);
        x.own(0, 5);
        due("9: changed hands", x.come(2, 0, VisaPages.READ), 6);
        due("9: found at the root", x.count(6), 8);
        x.own(0, 0);
        x.takeBack(0);
        due("9: taken back", x.come(1, 0, VisaPages.READ), 4);
        due("9: its root was", x.come(2, 0, VisaPages.READ), 4);
        due("9: a step, and two", x.count(6), 11);
        int[] ended = {2, 1, 1, 1, 2, 1, 1};
        for (int reason = 0; reason < 7; reason++) {
            due("9: ended(" + reason + ")", x.ended(reason), ended[reason]);
        }
        due("9: came", x.count(4), 9);
        due("9: in the house", x.count(3), 2);
        for (int far : new int[] {-1, 6, NONE, Integer.MIN_VALUE, Integer.MAX_VALUE}) {
            due("9: guest " + far, x.come(far, 0, VisaPages.READ), NO_SUCH);
            due("9: NO_SUCH before BAD_VALUE", x.come(far, 0, 0), NO_SUCH);
        }
        for (int far : new int[] {-1, 10, NONE, Integer.MIN_VALUE, Integer.MAX_VALUE}) {
            due("9: door " + far, x.come(0, far, VisaPages.READ), NO_SUCH);
            due("9: NO_SUCH before BAD_VALUE", x.come(0, far, 3), NO_SUCH);
        }
        for (int bad : new int[] {0, 3, 4, -1, Integer.MIN_VALUE, Integer.MAX_VALUE}) {
            due("9: need " + bad, x.come(0, 0, bad), BAD_VALUE);
        }
        due("9: errors are no visits", x.count(4), 9);
        due("9: nobody came in", x.count(3), 2);
    }

    private static void promise9ComeOrderOfReasons() {
        VisaPages x = new VisaPages();
        x.own(0, 0);
        x.stamp(0, 1, 0, 4);
        x.forge(3, 1, 0, 4, NONE);
        x.door(1, 0, 0);
        x.door(1, 1, 1);
        x.door(2, 1, 1);
        due("9: 2 before 3", x.come(2, 1, VisaPages.READ), 2);
        x.takeBack(1);
        due("9: 3 before 4", x.come(1, 1, VisaPages.READ), 3);
        due("9: 5 if all else is well", x.come(1, 0, VisaPages.READ), 5);
        x.own(0, 5);
        due("9: 5 before 6", x.come(1, 0, VisaPages.READ), 5);
        x.takeBack(0);
        due("9: 4 before 5", x.come(1, 0, VisaPages.READ), 4);
        VisaPages y = new VisaPages();
        y.own(0, 0);
        y.stamp(0, 1, 0, 7);
        y.pass(0, 2, 7);
        y.pass(1, 3, 3);
        y.door(3, 0, 2);
        due("9: holder and need are asked at the door only", y.come(3, 0, VisaPages.WRITE), 0);
        y.takeBack(1);
        y.takeBack(0);
        y.flush();
        int steps = y.count(6);
        due("9: the first stamp that has a reason ends it", y.come(3, 0, VisaPages.WRITE), 4);
        due("9: after two steps", y.count(6) - steps, 2);
    }

    private static void promise9ComeNotes() {
        VisaPages x = withNotes(2);
        due("9: helped", x.count(5), 0);
        due("9: steps", x.count(6), 2);
        due("9: by a note", x.come(1, 0, VisaPages.READ), 0);
        due("9: helped", x.count(5), 1);
        due("9: a step", x.count(6), 3);
        due("9: it ended with 0", x.ended(0), 3);
        due("9: came", x.count(4), 3);
        due("9: no new note", x.count(2), 2);
        due("9: KEEP 0 leaves the order", x.note(0, 1), 0);
        due("9: another need", x.come(1, 0, VisaPages.WRITE), 0);
        due("9: is another note", x.count(2), 3);
        due("9: helped", x.count(5), 1);
        x.set(VisaPages.KEEP, 1);
        x.come(1, 0, VisaPages.READ);
        due("9: KEEP 1 moves it up", x.note(0, 1), 1);
        due("9: the next", x.note(1, 2), VisaPages.WRITE);
        due("9: to the end", x.note(2, 1), 0);
        due("9: with its guest", x.note(2, 0), 1);
        due("9: with its need", x.note(2, 2), VisaPages.READ);
        due("9: no note is lost", x.count(2), 3);
        due("9: none is wiped", x.count(7), 0);
        due("9: none is dropped", x.count(8), 0);
        x.set(VisaPages.BOARD, 3);
        x.door(1, 5, 0);
        x.come(1, 5, VisaPages.READ);
        due("9: the board is full", x.count(2), 3);
        due("9: the first one is dropped", x.note(0, 2), VisaPages.WRITE);
        due("9: the last one is new", x.note(2, 1), 5);
        due("9: dropped", x.count(8), 1);
        due("9: not wiped", x.count(7), 0);
        x.door(2, 0, 0);
        due("9: the note is not for others", x.come(2, 0, VisaPages.READ), 2);
        due("9: no note of a bad end", x.count(2), 3);
        VisaPages y = withNotes(2);
        y.set(VisaPages.WIPE, 1);
        y.own(5, 5);
        int steps = y.count(6);
        y.come(1, 1, VisaPages.READ);
        due("9: a note costs one step", y.count(6) - steps, 1);
        VisaPages z = withNotes(8);
        z.door(1, 8, 0);
        z.come(1, 8, VisaPages.READ);
        due("9: BOARD 8 holds 8", z.count(2), 8);
        due("9: the ninth drops the first", z.note(0, 1), 1);
        due("9: the ninth is last", z.note(7, 1), 8);
    }

    private static void promise9ComeNames() {
        VisaPages x = withNotes(2);
        x.come(2, 0, VisaPages.READ);
        due("9: NAMES 1 keeps the notes", x.count(2), 2);
        due("9: in the house", x.count(3), 2);
        x.set(VisaPages.NAMES, 0);
        due("9: set wipes none", x.count(2), 2);
        x.come(2, 0, VisaPages.READ);
        due("9: the same guest wipes none", x.count(2), 2);
        due("9: another one", x.come(1, 0, VisaPages.READ), 0);
        due("9: wipes all, and walks", x.count(2), 1);
        due("9: no note helped", x.count(5), 0);
        due("9: wiped", x.count(7), 2);
        x.come(1, 0, VisaPages.READ);
        due("9: now it helps", x.count(5), 1);
        VisaPages y = new VisaPages();
        y.own(0, 0);
        y.stamp(0, 0, 0, 7);
        y.set(VisaPages.NAMES, 0);
        y.door(0, 0, 0);
        due("9: 0 is in the house at first", y.come(0, 0, VisaPages.READ) + y.count(7), 0);
        due("9: a bad end wipes too", y.come(1, 0, VisaPages.READ), 1);
        due("9: wiped", y.count(7), 1);
    }

    private static void promise10Flush() {
        VisaPages x = new VisaPages();
        due("10: none", x.flush(), 0);
        due("10: it is a change", x.count(14), 1);
        x = withNotes(5);
        due("10: five", x.flush(), 5);
        due("10: notes", x.count(2), 0);
        due("10: wiped", x.count(7), 5);
        due("10: again", x.flush(), 0);
        due("10: wiped", x.count(7), 5);
        due("10: full board", withNotes(8).flush(), 8);
    }
}
