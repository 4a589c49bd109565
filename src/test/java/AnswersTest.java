/** Promises 11 to 20: what there is, and what if. */
public final class AnswersTest {
    private static final int NO_SUCH = VisaPages.NO_SUCH, BAD_VALUE = VisaPages.BAD_VALUE, NONE = VisaPages.NONE;

    private static void due(String call, long got, long want) {
        Due.due(call, got, want);
    }

    public static void main(String[] args) {
        promise11OfPage();
        promise12OfStamp();
        promise13Leads();
        promise14Note();
        promise15Count();
        promise16Ended();
        promise17Walk();
        promise18Hides();
        promise19Needless();
        promise20Longest();
        nothingChanges();
        Due.end("AnswersTest");
    }

    /** Page 2 of guest 0: stamp 0 to 1 (7), 1 from it to 2 (5), 2 from that to 3 (1), 3 to 4 (2), 4 forged to 5. */
    private static VisaPages house() {
        VisaPages x = new VisaPages();
        x.own(2, 0);
        x.stamp(0, 1, 2, 7);
        x.pass(0, 2, 5);
        x.pass(1, 3, 1);
        x.stamp(0, 4, 2, 2);
        x.forge(0, 5, 2, 7, 0);
        return x;
    }

    private static void promise11OfPage() {
        VisaPages x = house();
        due("11: owner", x.ofPage(2, 0), 0);
        due("11: readers", x.ofPage(2, 1), 1 + 2 + 4 + 8);
        due("11: writers", x.ofPage(2, 2), 1 + 2 + 16);
        due("11: good stamps", x.ofPage(2, 3), 4);
        x.takeBack(1);
        due("11: readers", x.ofPage(2, 1), 1 + 2);
        due("11: good stamps", x.ofPage(2, 3), 2);
        x.own(2, NONE);
        due("11: owner", x.ofPage(2, 0), NONE);
        due("11: readers", x.ofPage(2, 1), 0);
        due("11: writers", x.ofPage(2, 2), 0);
        due("11: good stamps", x.ofPage(2, 3), 0);
        x.own(2, 5);
        due("11: the owner alone", x.ofPage(2, 1), 32);
        due("11: the owner alone", x.ofPage(2, 2), 32);
        x.own(11, 3);
        x.stamp(3, 3, 11, 4);
        x.stamp(3, 2, 11, 4);
        due("11: GIVE is not to read", x.ofPage(11, 1), 8);
        due("11: another page's stamps", x.ofPage(11, 3), 2);
        for (int far : new int[] {-1, 12, NONE, Integer.MIN_VALUE, Integer.MAX_VALUE}) {
            due("11: page " + far, x.ofPage(far, 0), NO_SUCH);
            due("11: NO_SUCH before BAD_VALUE", x.ofPage(far, 9), NO_SUCH);
        }
        for (int bad : new int[] {-1, 4, Integer.MIN_VALUE, Integer.MAX_VALUE}) {
            due("11: what " + bad, x.ofPage(0, bad), BAD_VALUE);
        }
    }

    private static void promise12OfStamp() {
        VisaPages x = house();
        int[][] tells = {
            {2, 0, 1, 7, NONE, 0, 0, 1, 1, 3},
            {2, 1, 2, 5, 0, 0, 0, 1, 2, 1},
            {2, 2, 3, 1, 1, 0, 0, 1, 3, 0},
            {2, 0, 4, 2, NONE, 0, 0, 1, 1, 0},
            {2, 0, 5, 7, 0, 1, 0, 0, 2, 0},
        };
        for (int stamp = 0; stamp < tells.length; stamp++) {
            for (int what = 0; what < 10; what++) {
                due("12: ofStamp(" + stamp + ", " + what + ")", x.ofStamp(stamp, what), tells[stamp][what]);
            }
        }
        x.takeBack(1);
        due("12: taken back", x.ofStamp(1, 6), 1);
        due("12: not good", x.ofStamp(1, 7), 0);
        due("12: not good by its root", x.ofStamp(2, 7), 0);
        due("12: chains stay", x.ofStamp(2, 8), 3);
        due("12: below stay", x.ofStamp(0, 9), 3);
        for (int far : new int[] {-1, 5, 40, NONE, Integer.MIN_VALUE, Integer.MAX_VALUE}) {
            due("12: stamp " + far, x.ofStamp(far, 0), NO_SUCH);
            due("12: NO_SUCH before BAD_VALUE", x.ofStamp(far, 10), NO_SUCH);
        }
        for (int bad : new int[] {-1, 10, Integer.MIN_VALUE, Integer.MAX_VALUE}) {
            due("12: what " + bad, x.ofStamp(0, bad), BAD_VALUE);
        }
        VisaPages y = new VisaPages();
        y.forge(0, 0, 0, 7, NONE);
        for (int stamp = 1; stamp < 40; stamp++) {
            y.forge(0, 0, 0, 7, stamp - 1);
        }
        due("12: the longest chain", y.ofStamp(39, 8), 40);
        due("12: below the first", y.ofStamp(0, 9), 39);
        due("12: below the last", y.ofStamp(39, 9), 0);
        due("12: below one between", y.ofStamp(30, 9), 9);
    }

    private static void promise13Leads() {
        VisaPages x = house();
        x.door(0, 0, 4);
        x.door(5, 9, 2);
        due("13: leads(0, 0)", x.leads(0, 0), 4);
        due("13: leads(5, 9)", x.leads(5, 9), 2);
        due("13: leads(0, 1)", x.leads(0, 1), NONE);
        due("13: leads(1, 0)", x.leads(1, 0), NONE);
        for (int far : new int[] {-1, 6, NONE, Integer.MIN_VALUE, Integer.MAX_VALUE}) {
            due("13: guest " + far, x.leads(far, 0), NO_SUCH);
        }
        for (int far : new int[] {-1, 10, NONE, Integer.MIN_VALUE, Integer.MAX_VALUE}) {
            due("13: door " + far, x.leads(0, far), NO_SUCH);
        }
        due("13: door 10 is not the next guest's", x.leads(1, 10), NO_SUCH);
    }

    private static void promise14Note() {
        VisaPages x = house();
        x.door(1, 7, 0);
        x.door(4, 3, 3);
        x.come(1, 7, VisaPages.READ);
        x.come(4, 3, VisaPages.WRITE);
        int[][] notes = {{1, 7, 1, 2}, {4, 3, 2, 2}};
        for (int note = 0; note < 2; note++) {
            for (int what = 0; what < 4; what++) {
                due("14: note(" + note + ", " + what + ")", x.note(note, what), notes[note][what]);
            }
        }
        for (int far : new int[] {-1, 2, 8, NONE, Integer.MIN_VALUE, Integer.MAX_VALUE}) {
            due("14: note " + far, x.note(far, 0), NO_SUCH);
            due("14: NO_SUCH before BAD_VALUE", x.note(far, 4), NO_SUCH);
        }
        for (int bad : new int[] {-1, 4, Integer.MIN_VALUE, Integer.MAX_VALUE}) {
            due("14: what " + bad, x.note(0, bad), BAD_VALUE);
        }
    }

    private static void promise15Count() {
        VisaPages x = house();
        x.set(VisaPages.BOARD, 2);
        x.set(VisaPages.NAMES, 1);
        x.set(VisaPages.WIPE, 1);
        x.set(VisaPages.KEEP, 1);
        for (int door = 0; door < 3; door++) {
            x.door(3, door, 2);
            x.come(3, door, VisaPages.READ);
        }
        x.come(3, 2, VisaPages.READ);
        x.come(3, 2, VisaPages.WRITE);
        x.put(Due.packed("t1"));
        int[] want = {5, 4, 2, 3, 5, 1, 11, 0, 1, 2, 1, 1, 1, 2, 6};
        for (int what = 0; what < want.length; what++) {
            due("15: count(" + what + ")", x.count(what), want[what]);
        }
        x.takeBack(3);
        due("15: good stamps", x.count(1), 3);
        due("15: stamps", x.count(0), 5);
        due("15: wiped", x.count(7), 2);
        due("15: notes", x.count(2), 0);
        for (int bad : new int[] {-1, 15, Integer.MIN_VALUE, Integer.MAX_VALUE}) {
            due("15: what " + bad, x.count(bad), BAD_VALUE);
        }
    }

    private static void promise16Ended() {
        VisaPages x = house();
        x.door(1, 0, 0);
        x.come(1, 0, VisaPages.READ);
        x.come(1, 0, VisaPages.READ);
        x.come(1, 1, VisaPages.READ);
        due("16: by a walk and by a note", x.ended(0), 2);
        due("16: shut", x.ended(1), 1);
        x.walk(1, 1, VisaPages.READ, 0);
        due("16: walk() is no visit", x.ended(1), 1);
        for (int reason = 2; reason < 7; reason++) {
            due("16: ended(" + reason + ")", x.ended(reason), 0);
        }
        for (int bad : new int[] {-1, 7, NONE, Integer.MIN_VALUE, Integer.MAX_VALUE}) {
            due("16: reason " + bad, x.ended(bad), BAD_VALUE);
        }
    }

    private static void walks(VisaPages x, int guest, int door, int need, int reason, int steps) {
        due("17: walk(" + guest + ", " + door + ", " + need + ", 0)", x.walk(guest, door, need, 0), reason);
        due("17: walk(" + guest + ", " + door + ", " + need + ", 1)", x.walk(guest, door, need, 1), steps);
    }

    private static void promise17Walk() {
        VisaPages x = house();
        x.door(3, 0, 2);
        x.door(5, 0, 4);
        x.door(0, 0, 2);
        walks(x, 3, 1, 1, 1, 0);
        walks(x, 3, 0, 1, 0, 3);
        walks(x, 3, 0, 2, 5, 1);
        walks(x, 5, 0, 1, 3, 1);
        walks(x, 0, 0, 1, 2, 1);
        x.come(3, 0, VisaPages.READ);
        walks(x, 3, 0, 1, 0, 3);
        due("17: it counts no steps", x.count(6), 3);
        x.own(2, NONE);
        walks(x, 3, 0, 1, 6, 3);
        x.takeBack(1);
        walks(x, 3, 0, 1, 4, 2);
        for (int far : new int[] {-1, 6, NONE, Integer.MIN_VALUE, Integer.MAX_VALUE}) {
            due("17: guest " + far, x.walk(far, 0, 1, 0), NO_SUCH);
            due("17: NO_SUCH before BAD_VALUE", x.walk(far, 0, 0, 0), NO_SUCH);
        }
        for (int far : new int[] {-1, 10, NONE, Integer.MIN_VALUE, Integer.MAX_VALUE}) {
            due("17: door " + far, x.walk(0, far, 1, 0), NO_SUCH);
            due("17: NO_SUCH before BAD_VALUE", x.walk(0, far, 1, 2), NO_SUCH);
        }
        for (int bad : new int[] {0, 3, 4, -1, Integer.MIN_VALUE, Integer.MAX_VALUE}) {
            due("17: need " + bad, x.walk(0, 0, bad, 0), BAD_VALUE);
        }
        for (int bad : new int[] {-1, 2, Integer.MIN_VALUE, Integer.MAX_VALUE}) {
            due("17: what " + bad, x.walk(0, 0, 1, bad), BAD_VALUE);
        }
        VisaPages y = new VisaPages();
        y.own(0, 0);
        y.stamp(0, 1, 0, 7);
        for (int stamp = 1; stamp < 40; stamp++) {
            y.pass(stamp - 1, 1, 7);
        }
        y.door(1, 0, 39);
        walks(y, 1, 0, 2, 0, 40);
    }

    private static void promise18Hides() {
        VisaPages x = house();
        due("18: hides(0)", x.hides(0), 2 + 4 + 8);
        due("18: hides(1)", x.hides(1), 4 + 8);
        due("18: hides(2)", x.hides(2), 8);
        due("18: one that is not to read", x.hides(3), 0);
        due("18: a forged one", x.hides(4), 0);
        x.stamp(0, 3, 2, 1);
        due("18: 3 has another one now", x.hides(1), 4);
        x.stamp(0, 0, 2, 7);
        due("18: the owner sees it anyway", x.hides(6), 0);
        x.takeBack(0);
        due("18: one that was taken back", x.hides(0), 0);
        due("18: one whose root was", x.hides(1), 0);
        for (int far : new int[] {-1, 7, 40, NONE, Integer.MIN_VALUE, Integer.MAX_VALUE}) {
            due("18: stamp " + far, x.hides(far), NO_SUCH);
        }
    }

    private static void promise19Needless() {
        VisaPages x = house();
        due("19: the one that is not to read", x.needless(2), 1L << 3);
        x.stamp(0, 3, 2, 1);
        due("19: two for one guest", x.needless(2), 1L << 2 | 1L << 3 | 1L << 5);
        x.takeBack(5);
        due("19: not those that are not good", x.needless(2), 1L << 3);
        due("19: another page", x.needless(3), 0);
        x.stamp(0, 1, 2, 7);
        x.takeBack(1);
        due("19: also stamp 0", x.needless(2), 1L | 1L << 3 | 1L << 6);
        x.own(2, 3);
        due("19: no good stamps", x.needless(2), 0);
        for (int far : new int[] {-1, 12, NONE, Integer.MIN_VALUE, Integer.MAX_VALUE}) {
            due("19: page " + far, x.needless(far), NO_SUCH);
        }
        VisaPages y = new VisaPages();
        y.own(0, 0);
        y.own(1, 0);
        y.stamp(0, 1, 1, 1);
        for (int stamp = 1; stamp < 40; stamp++) {
            y.stamp(0, 0, 0, 7);
        }
        due("19: up to bit 39", y.needless(0), (1L << 40) - 2);
        due("19: the other page's only one", y.needless(1), 0);
    }

    private static void promise20Longest() {
        VisaPages x = house();
        due("20: the longest", x.longest(), 2);
        x.stamp(0, 1, 2, 7);
        x.pass(5, 2, 7);
        x.pass(6, 3, 7);
        due("20: the lowest of several", x.longest(), 2);
        x.forge(3, 4, 2, 7, 7);
        due("20: not a forged one", x.longest(), 2);
        x.takeBack(1);
        due("20: not one that is not good", x.longest(), 7);
        x.takeBack(5);
        due("20: with a chain of one", x.longest(), 0);
        x.own(2, NONE);
        due("20: none", x.longest(), NONE);
        due("20: no stamps", new VisaPages().longest(), NONE);
    }

    private static void nothingChanges() {
        VisaPages x = house();
        x.door(3, 0, 2);
        x.come(3, 0, 1);
        String before = Due.told(x);
        int history = x.count(14);
        x.walk(3, 0, 1, 0);
        x.hides(0);
        x.needless(2);
        x.longest();
        Due.same("what if", Due.told(x), before);
        due("what if records nothing", x.count(14), history);
    }
}
