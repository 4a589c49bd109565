/**
 * Each argument of each method: the whole range with its first and its last number, one number too small, one too
 * large, and far ones. Each call is made on a house of its own.
 */
public final class RangeTest {
    private static final int NO_SUCH = VisaPages.NO_SUCH, BAD_VALUE = VisaPages.BAD_VALUE;
    private static final int TOO_MANY = VisaPages.TOO_MANY, NOT_POSSIBLE = VisaPages.NOT_POSSIBLE, NONE = VisaPages.NONE;
    private static final int READ = VisaPages.READ, WRITE = VisaPages.WRITE;

    interface CallWith {
        long on(VisaPages x, int value);
    }

    interface Want {
        long of(int value);
    }

    public static void main(String[] args) {
        set();
        own();
        stamp();
        pass();
        forge();
        takeBack();
        door();
        come();
        ofPage();
        ofStamp();
        leads();
        note();
        countAndEnded();
        walk();
        hidesAndNeedless();
        slots();
        noneIsNoNumber();
        Due.end("RangeTest");
    }

    private static void range(String call, int low, int high, long error, Houses.Maker maker, CallWith made, Want want) {
        for (int value = low; value <= high; value++) {
            Due.due(call + " with " + value, made.on(maker.make(), value), want.of(value));
        }
        int[] outside = {
            low - 1, high + 1, low - 2, high + 2, Integer.MIN_VALUE, Integer.MAX_VALUE, low - 256, high + 256,
            low - 65536, high + 65536, low | 1 << 31, high | 1 << 30,
        };
        for (int value : outside) {
            if (value != NONE) {
                Due.due(call + " with " + value + ", out of range", made.on(maker.make(), value), error);
            }
        }
    }

    /** NONE as an argument for which the document does not take it. */
    private static void notNone(String call, long error, Houses.Maker maker, CallWith made) {
        Due.due(call + " with NONE", made.on(maker.make(), NONE), error);
    }

    private static void set() {
        int[] first = {4, 1, 2, 0};
        int[] low = {1, 0, 0, 0};
        int[] high = {8, 1, 2, 1};
        range("set(setting)", 0, 3, BAD_VALUE, Houses::fresh, (x, v) -> x.set(v, 1), v -> first[v]);
        notNone("set(setting)", BAD_VALUE, Houses::fresh, (x, v) -> x.set(v, 1));
        for (int s = 0; s < 4; s++) {
            int setting = s;
            range("set(" + s + ", value)", low[s], high[s], BAD_VALUE, Houses::fresh,
                (x, v) -> x.set(setting, v), v -> first[setting]);
            range("set(" + s + ", value), then count", low[s], high[s], first[s], Houses::fresh,
                (x, v) -> x.set(setting, v) * 0 + x.count(9 + setting), v -> v);
            notNone("set(" + s + ", value)", BAD_VALUE, Houses::fresh, (x, v) -> x.set(setting, v));
        }
    }

    private static void own() {
        range("own(page, 3)", 0, 11, NO_SUCH, Houses::fresh, (x, v) -> x.own(v, 3), v -> 0);
        range("own(page, 3), then ofPage", 0, 11, NO_SUCH, Houses::fresh,
            (x, v) -> x.own(v, 3) * 0 + x.ofPage(v, 0), v -> 3);
        range("own(7, guest)", 0, 5, NO_SUCH, Houses::owned, (x, v) -> x.own(7, v), v -> 0);
        range("own(7, guest), then ofPage", 0, 5, 0, Houses::owned,
            (x, v) -> x.own(7, v) * 0 + x.ofPage(7, 0), v -> v);
        notNone("own(page, 3)", NO_SUCH, Houses::fresh, (x, v) -> x.own(v, 3));
        Due.due("own(7, NONE)", Houses.owned().own(7, NONE), 0);
    }

    /** Page g is guest g's, for each guest. */
    private static VisaPages eachItsOwn() {
        VisaPages x = new VisaPages();
        for (int guest = 0; guest < 6; guest++) {
            x.own(guest, guest);
        }
        return x;
    }

    private static int pageOf(int guest) {
        return guest >= 0 && guest < 6 ? guest : 0;
    }

    private static void stamp() {
        Houses.Maker each = RangeTest::eachItsOwn;
        range("stamp(giver, 1, giver, 1)", 0, 5, NO_SUCH, each, (x, v) -> x.stamp(v, 1, pageOf(v), 1), v -> 0);
        range("stamp(giver, 1, 0, 1)", 0, 5, NO_SUCH, each, (x, v) -> x.stamp(v, 1, 0, 1), v -> v == 0 ? 0 : NOT_POSSIBLE);
        range("stamp(0, guest, 0, 1)", 0, 5, NO_SUCH, each, (x, v) -> x.stamp(0, v, 0, 1), v -> 0);
        range("stamp(0, guest, 0, 1), then its holder", 0, 5, NO_SUCH, each,
            (x, v) -> x.stamp(0, v, 0, 1) * 0 + x.ofStamp(0, 2), v -> v);
        range("stamp(0, 1, page, 1)", 0, 11, NO_SUCH, Houses::owned, (x, v) -> x.stamp(0, 1, v, 1), v -> 0);
        range("stamp(0, 1, page, 1), then its page", 0, 11, NO_SUCH, Houses::owned,
            (x, v) -> x.stamp(0, 1, v, 1) * 0 + x.ofStamp(0, 0), v -> v);
        range("stamp(0, 1, 0, rights)", 1, 7, BAD_VALUE, Houses::owned, (x, v) -> x.stamp(0, 1, 0, v), v -> 0);
        range("stamp(0, 1, 0, rights), then its rights", 1, 7, NO_SUCH, Houses::owned,
            (x, v) -> x.stamp(0, 1, 0, v) * 0 + x.ofStamp(0, 3), v -> v);
        notNone("stamp(giver, 1, 0, 1)", NO_SUCH, Houses::owned, (x, v) -> x.stamp(v, 1, 0, 1));
        notNone("stamp(0, guest, 0, 1)", NO_SUCH, Houses::owned, (x, v) -> x.stamp(0, v, 0, 1));
        notNone("stamp(0, 1, page, 1)", NO_SUCH, Houses::owned, (x, v) -> x.stamp(0, 1, v, 1));
        notNone("stamp(0, 1, 0, rights)", BAD_VALUE, Houses::owned, (x, v) -> x.stamp(0, 1, 0, v));
    }

    private static void pass() {
        for (int m : new int[] {1, 2, 39}) {
            int made = m;
            range("pass(stamp, 2, 1) with " + made + " stamps", 0, made - 1, NO_SUCH, () -> Houses.stamped(made),
                (x, v) -> x.pass(v, 2, 1), v -> made);
        }
        range("pass(stamp, 2, 1) with 40 stamps", 0, 39, NO_SUCH, Houses::full, (x, v) -> x.pass(v, 2, 1), v -> TOO_MANY);
        Houses.Maker one = () -> Houses.stamped(1);
        range("pass(0, guest, 1)", 0, 5, NO_SUCH, one, (x, v) -> x.pass(0, v, 1), v -> 1);
        range("pass(0, guest, 1), then its holder", 0, 5, NO_SUCH, one,
            (x, v) -> x.pass(0, v, 1) * 0 + x.ofStamp(1, 2), v -> v);
        range("pass(0, 2, rights)", 1, 7, BAD_VALUE, one, (x, v) -> x.pass(0, 2, v), v -> 1);
        range("pass(0, 2, rights), then its rights", 1, 7, NO_SUCH, one,
            (x, v) -> x.pass(0, 2, v) * 0 + x.ofStamp(1, 3), v -> v);
        for (int h = 1; h <= 7; h++) {
            int has = h;
            Houses.Maker weaker = () -> {
                VisaPages x = Houses.owned();
                x.stamp(0, 1, 0, has);
                return x;
            };
            range("pass(0, 2, rights) of a stamp with " + has, 1, 7, BAD_VALUE, weaker, (x, v) -> x.pass(0, 2, v),
                v -> has >= 4 && (v & has) == v ? 1 : NOT_POSSIBLE);
        }
        notNone("pass(stamp, 2, 1)", NO_SUCH, one, (x, v) -> x.pass(v, 2, 1));
        notNone("pass(0, guest, 1)", NO_SUCH, one, (x, v) -> x.pass(0, v, 1));
        notNone("pass(0, 2, rights)", BAD_VALUE, one, (x, v) -> x.pass(0, 2, v));
    }

    private static void forge() {
        Houses.Maker three = () -> Houses.stamped(3);
        range("forge(giver, 1, 0, 1, 0)", 0, 5, NO_SUCH, three, (x, v) -> x.forge(v, 1, 0, 1, 0), v -> 3);
        range("forge(giver, 1, 0, 1, 0), then its giver", 0, 5, NO_SUCH, three,
            (x, v) -> x.forge(v, 1, 0, 1, 0) * 0 + x.ofStamp(3, 1), v -> v);
        range("forge(0, guest, 0, 1, 0)", 0, 5, NO_SUCH, three, (x, v) -> x.forge(0, v, 0, 1, 0), v -> 3);
        range("forge(0, guest, 0, 1, 0), then its holder", 0, 5, NO_SUCH, three,
            (x, v) -> x.forge(0, v, 0, 1, 0) * 0 + x.ofStamp(3, 2), v -> v);
        range("forge(0, 1, page, 1, 0)", 0, 11, NO_SUCH, three, (x, v) -> x.forge(0, 1, v, 1, 0), v -> 3);
        range("forge(0, 1, page, 1, 0), then its page", 0, 11, NO_SUCH, three,
            (x, v) -> x.forge(0, 1, v, 1, 0) * 0 + x.ofStamp(3, 0), v -> v);
        range("forge(0, 1, 0, rights, 0)", 1, 7, BAD_VALUE, three, (x, v) -> x.forge(0, 1, 0, v, 0), v -> 3);
        range("forge(0, 1, 0, rights, 0), then its rights", 1, 7, NO_SUCH, three,
            (x, v) -> x.forge(0, 1, 0, v, 0) * 0 + x.ofStamp(3, 3), v -> v);
        for (int m : new int[] {1, 2, 39}) {
            int made = m;
            range("forge(0, 1, 0, 1, root) with " + made + " stamps", 0, made - 1, NO_SUCH, () -> Houses.stamped(made),
                (x, v) -> x.forge(0, 1, 0, 1, v), v -> made);
            range("forge(0, 1, 0, 1, root), then its root", 0, made - 1, NO_SUCH, () -> Houses.stamped(made),
                (x, v) -> x.forge(0, 1, 0, 1, v) * 0 + x.ofStamp(made, 4), v -> v);
        }
        range("forge(0, 1, 0, 1, root) with 40 stamps", 0, 39, NO_SUCH, Houses::full,
            (x, v) -> x.forge(0, 1, 0, 1, v), v -> TOO_MANY);
        Due.due("forge without a root", three.make().forge(0, 1, 0, 1, NONE), 3);
        notNone("forge(giver, 1, 0, 1, 0)", NO_SUCH, three, (x, v) -> x.forge(v, 1, 0, 1, 0));
        notNone("forge(0, guest, 0, 1, 0)", NO_SUCH, three, (x, v) -> x.forge(0, v, 0, 1, 0));
        notNone("forge(0, 1, page, 1, 0)", NO_SUCH, three, (x, v) -> x.forge(0, 1, v, 1, 0));
        notNone("forge(0, 1, 0, rights, 0)", BAD_VALUE, three, (x, v) -> x.forge(0, 1, 0, v, 0));
    }

    private static void takeBack() {
        for (int m : new int[] {1, 2, 39, 40}) {
            int made = m;
            range("takeBack(stamp) with " + made + " stamps", 0, made - 1, NO_SUCH, () -> Houses.stamped(made),
                (x, v) -> x.takeBack(v), v -> 0);
            range("takeBack(stamp), then whether it was", 0, made - 1, NO_SUCH, () -> Houses.stamped(made),
                (x, v) -> x.takeBack(v) * 0 + x.ofStamp(v, 6), v -> 1);
        }
        notNone("takeBack(stamp)", NO_SUCH, Houses::full, (x, v) -> x.takeBack(v));
    }

    private static void door() {
        Houses.Maker one = () -> Houses.stamped(1);
        range("door(guest, 0, 0)", 0, 5, NO_SUCH, one, (x, v) -> x.door(v, 0, 0), v -> 0);
        range("door(guest, 0, 0), then leads", 0, 5, NO_SUCH, one, (x, v) -> x.door(v, 0, 0) * 0 + x.leads(v, 0), v -> 0);
        range("door(4, door, 0)", 0, 9, NO_SUCH, one, (x, v) -> x.door(4, v, 0), v -> 0);
        range("door(4, door, 0), then leads", 0, 9, NO_SUCH, one, (x, v) -> x.door(4, v, 0) * 0 + x.leads(4, v), v -> 0);
        for (int m : new int[] {1, 2, 39, 40}) {
            int made = m;
            range("door(2, 3, stamp) with " + made + " stamps", 0, made - 1, NO_SUCH, () -> Houses.stamped(made),
                (x, v) -> x.door(2, 3, v), v -> 0);
            range("door(2, 3, stamp), then leads", 0, made - 1, NONE, () -> Houses.stamped(made),
                (x, v) -> x.door(2, 3, v) * 0 + x.leads(2, 3), v -> v);
        }
        Due.due("door(1, 0, NONE)", one.make().door(1, 0, NONE), 0);
        notNone("door(guest, 0, 0)", NO_SUCH, one, (x, v) -> x.door(v, 0, 0));
        notNone("door(4, door, 0)", NO_SUCH, one, (x, v) -> x.door(4, v, 0));
        for (int g = 0; g < 6; g++) {
            for (int d = 0; d < 10; d++) {
                VisaPages x = one.make();
                x.door(g, d, 0);
                int leading = 0;
                for (int place = 0; place < 60; place++) {
                    leading += x.leads(place / 10, place % 10) == 0 ? 1 : 0;
                }
                Due.due("door(" + g + ", " + d + ", 0) is that door alone", leading, g == 1 && d == 0 ? 1 : 2);
            }
        }
    }

    private static void come() {
        Houses.Maker one = () -> Houses.stamped(1);
        range("come(guest, 0, READ)", 0, 5, NO_SUCH, one, (x, v) -> x.come(v, 0, READ), v -> v == 1 ? 0 : 1);
        range("come(guest, 0, READ), then who is in", 0, 5, 0, one,
            (x, v) -> x.come(v, 0, READ) * 0 + x.count(3), v -> v);
        range("come(1, door, READ)", 0, 9, NO_SUCH, one, (x, v) -> x.come(1, v, READ), v -> v == 0 ? 0 : 1);
        range("come(1, 0, need)", READ, WRITE, BAD_VALUE, one, (x, v) -> x.come(1, 0, v), v -> 0);
        range("come(1, 0, need), then the note's", READ, WRITE, NO_SUCH, one,
            (x, v) -> x.come(1, 0, v) * 0 + x.note(0, 2), v -> v);
        notNone("come(guest, 0, READ)", NO_SUCH, one, (x, v) -> x.come(v, 0, READ));
        notNone("come(1, door, READ)", NO_SUCH, one, (x, v) -> x.come(1, v, READ));
        notNone("come(1, 0, need)", BAD_VALUE, one, (x, v) -> x.come(1, 0, v));
    }

    private static void ofPage() {
        int[] about0 = {0, 1 | 2 | 4 | 8, 1 | 2 | 4 | 8, 3};
        int[] owner = {0, NONE, NONE, NONE, NONE, NONE, NONE, NONE, NONE, NONE, NONE, 5};
        range("ofPage(page, 0)", 0, 11, NO_SUCH, Houses::busy, (x, v) -> x.ofPage(v, 0), v -> owner[v]);
        range("ofPage(page, 1)", 0, 11, NO_SUCH, Houses::busy, (x, v) -> x.ofPage(v, 1),
            v -> v == 0 ? 15 : v == 11 ? 32 | 1 : 0);
        range("ofPage(page, 2)", 0, 11, NO_SUCH, Houses::busy, (x, v) -> x.ofPage(v, 2),
            v -> v == 0 ? 15 : v == 11 ? 32 | 2 | 1 : 0);
        range("ofPage(page, 3)", 0, 11, NO_SUCH, Houses::busy, (x, v) -> x.ofPage(v, 3),
            v -> v == 0 ? 3 : v == 11 ? 2 : 0);
        range("ofPage(0, what)", 0, 3, BAD_VALUE, Houses::busy, (x, v) -> x.ofPage(0, v), v -> about0[v]);
        notNone("ofPage(page, 0)", NO_SUCH, Houses::busy, (x, v) -> x.ofPage(v, 0));
        notNone("ofPage(0, what)", BAD_VALUE, Houses::busy, (x, v) -> x.ofPage(0, v));
    }

    private static void ofStamp() {
        int[] about1 = {0, 1, 2, 7, 0, 0, 0, 1, 2, 2};
        range("ofStamp(1, what)", 0, 9, BAD_VALUE, Houses::busy, (x, v) -> x.ofStamp(1, v), v -> about1[v]);
        int[] holders = {1, 2, 3, 4, 5, 1, 0, 3};
        range("ofStamp(stamp, 2)", 0, 7, NO_SUCH, Houses::busy, (x, v) -> x.ofStamp(v, 2), v -> holders[v]);
        for (int w = 0; w <= 9; w++) {
            int what = w;
            range("ofStamp(stamp, " + what + ") with 40", 0, 39, NO_SUCH, Houses::full, (x, v) -> x.ofStamp(v, what),
                v -> new int[] {0, 0, 1, 7, NONE, 0, 0, 1, 1, 0}[what]);
            Due.due("ofStamp(0, " + what + ") without stamps", Houses.fresh().ofStamp(0, what), NO_SUCH);
        }
        notNone("ofStamp(stamp, 0)", NO_SUCH, Houses::busy, (x, v) -> x.ofStamp(v, 0));
        notNone("ofStamp(0, what)", BAD_VALUE, Houses::busy, (x, v) -> x.ofStamp(0, v));
    }

    private static void leads() {
        int[] door0 = {6, 0, 1, NONE, 3, 4};
        range("leads(guest, 0)", 0, 5, NO_SUCH, Houses::busy, (x, v) -> x.leads(v, 0), v -> door0[v]);
        int[] of3 = {NONE, NONE, NONE, 7, NONE, NONE, NONE, NONE, NONE, 2};
        range("leads(3, door)", 0, 9, NO_SUCH, Houses::busy, (x, v) -> x.leads(3, v), v -> of3[v]);
        notNone("leads(guest, 0)", NO_SUCH, Houses::busy, (x, v) -> x.leads(v, 0));
        notNone("leads(3, door)", NO_SUCH, Houses::busy, (x, v) -> x.leads(3, v));
    }

    private static void note() {
        int[][] notes = {{2, 0, 2, 0}, {3, 9, 1, 0}, {2, 0, 1, 0}, {1, 0, 1, 0}};
        for (int w = 0; w < 4; w++) {
            int what = w;
            range("note(note, " + what + ")", 0, 3, NO_SUCH, Houses::busy, (x, v) -> x.note(v, what), v -> notes[v][what]);
        }
        range("note(1, what)", 0, 3, BAD_VALUE, Houses::busy, (x, v) -> x.note(1, v), v -> notes[1][v]);
        for (int n = 1; n <= 8; n++) {
            int size = n;
            range("note(note, 1) of " + size, 0, size - 1, NO_SUCH, () -> Houses.noted(size), (x, v) -> x.note(v, 1), v -> v);
        }
        notNone("note(note, 0)", NO_SUCH, Houses::busy, (x, v) -> x.note(v, 0));
        notNone("note(0, what)", BAD_VALUE, Houses::busy, (x, v) -> x.note(0, v));
    }

    private static void countAndEnded() {
        int[] counts = {8, 5, 4, 1, 14, 2, 17, 1, 1, 4, 1, 2, 1, 6, 6};
        range("count(what)", 0, 14, BAD_VALUE, Houses::busy, (x, v) -> x.count(v), v -> counts[v]);
        notNone("count(what)", BAD_VALUE, Houses::busy, (x, v) -> x.count(v));
        int[] ended = {8, 1, 1, 1, 1, 1, 1};
        range("ended(reason)", 0, 6, BAD_VALUE, Houses::busy, (x, v) -> x.ended(v), v -> ended[v]);
        notNone("ended(reason)", BAD_VALUE, Houses::busy, (x, v) -> x.ended(v));
    }

    private static void walk() {
        int[] ends = {0, 0, 0, 1, 3, 4};
        int[] steps = {1, 1, 2, 0, 1, 1};
        range("walk(guest, 0, READ, 0)", 0, 5, NO_SUCH, Houses::busy, (x, v) -> x.walk(v, 0, READ, 0), v -> ends[v]);
        range("walk(guest, 0, READ, 1)", 0, 5, NO_SUCH, Houses::busy, (x, v) -> x.walk(v, 0, READ, 1), v -> steps[v]);
        int[] doorEnds = {1, 1, 1, 3, 1, 1, 1, 1, 1, 0};
        range("walk(3, door, READ, 0)", 0, 9, NO_SUCH, Houses::busy, (x, v) -> x.walk(3, v, READ, 0), v -> doorEnds[v]);
        range("walk(1, 1, need, 0)", READ, WRITE, BAD_VALUE, Houses::busy,
            (x, v) -> x.walk(1, 1, v, 0), v -> v == READ ? 5 : 0);
        range("walk(2, 0, READ, what)", 0, 1, BAD_VALUE, Houses::busy, (x, v) -> x.walk(2, 0, READ, v), v -> v == 0 ? 0 : 2);
        notNone("walk(guest, 0, READ, 0)", NO_SUCH, Houses::busy, (x, v) -> x.walk(v, 0, READ, 0));
        notNone("walk(3, door, READ, 0)", NO_SUCH, Houses::busy, (x, v) -> x.walk(3, v, READ, 0));
        notNone("walk(1, 1, need, 0)", BAD_VALUE, Houses::busy, (x, v) -> x.walk(1, 1, v, 0));
        notNone("walk(2, 0, READ, what)", BAD_VALUE, Houses::busy, (x, v) -> x.walk(2, 0, READ, v));
    }

    private static void hidesAndNeedless() {
        int[] hidden = {2 | 4 | 8, 4 | 8, 8, 0, 0, 0, 1, 0};
        range("hides(stamp)", 0, 7, NO_SUCH, Houses::busy, (x, v) -> x.hides(v), v -> hidden[v]);
        range("hides(stamp) with 40", 0, 39, NO_SUCH, Houses::full, (x, v) -> x.hides(v), v -> 0);
        Due.due("hides(0) without stamps", Houses.fresh().hides(0), NO_SUCH);
        notNone("hides(stamp)", NO_SUCH, Houses::busy, (x, v) -> x.hides(v));
        range("needless(page)", 0, 11, NO_SUCH, Houses::busy, (x, v) -> x.needless(v), v -> v == 11 ? 1L << 5 : 0);
        range("needless(page) with 40", 0, 11, NO_SUCH, Houses::full, (x, v) -> x.needless(v), v -> v == 0 ? (1L << 40) - 1 : 0);
        notNone("needless(page)", NO_SUCH, Houses::busy, (x, v) -> x.needless(v));
    }

    private static void slots() {
        range("save(slot)", 0, 1, BAD_VALUE, Houses::busy, (x, v) -> x.save(v), v -> 8);
        range("restore(slot)", 0, 1, BAD_VALUE, Houses::busy, (x, v) -> x.restore(v), v -> 7);
        range("restore(slot) of nothing", 0, 1, BAD_VALUE, Houses::fresh, (x, v) -> x.restore(v), v -> NOT_POSSIBLE);
        notNone("save(slot)", BAD_VALUE, Houses::busy, (x, v) -> x.save(v));
        notNone("restore(slot)", BAD_VALUE, Houses::busy, (x, v) -> x.restore(v));
    }

    /** NONE is answered only if no error applies. */
    private static void noneIsNoNumber() {
        VisaPages x = Houses.fresh();
        Due.due("the owner of nobody's page", x.ofPage(11, 0), NONE);
        Due.due("the owner of no page", x.ofPage(12, 0), NO_SUCH);
        Due.due("a shut door", x.leads(5, 9), NONE);
        Due.due("no door", x.leads(5, 10), NO_SUCH);
        Due.due("no guest", x.leads(6, 9), NO_SUCH);
        x.own(0, 0);
        x.stamp(0, 0, 0, 7);
        Due.due("a stamp without a root", x.ofStamp(0, 4), NONE);
        Due.due("the root of no stamp", x.ofStamp(1, 4), NO_SUCH);
        Due.putText(x, "t0");
        Due.due("no fault", x.fault(), NONE);
        x.takeBack(0);
        Due.due("no good stamp", x.longest(), NONE);
    }
}
