/**
 * The errors of each method in the order in which its promise names them: every mixture of right and wrong arguments,
 * in every state that matters, each on a house of its own.
 */
public final class ErrorOrderTest {
    private static final int NO_SUCH = VisaPages.NO_SUCH, BAD_VALUE = VisaPages.BAD_VALUE, BAD_TEXT = VisaPages.BAD_TEXT;
    private static final int TOO_MANY = VisaPages.TOO_MANY, NOT_POSSIBLE = VisaPages.NOT_POSSIBLE, NONE = VisaPages.NONE;
    private static final int[] GUESTS = {-1, 0, 5, 6}, PAGES = {-1, 0, 11, 12}, DOORS = {-1, 0, 9, 10};
    private static final int[] RIGHTS = {0, 1, 7, 8}, NEEDS = {0, 1, 2, 3}, GUESTS_OR_NONE = {-7, NONE, -5, -1, 0, 5, 6};

    public static void main(String[] args) {
        set();
        own();
        for (int made : new int[] {0, 1, 39, 40}) {
            stamp(made);
            forge(made);
            pass(made);
            door(made);
            takeBack(made);
        }
        come();
        ofPage();
        ofStamp();
        leads();
        note();
        walk();
        put();
        slots();
        inOnePlace();
        Due.end("ErrorOrderTest");
    }

    /** The first code that is not 0: what the promise names first is checked first. */
    private static long first(long... errors) {
        for (long error : errors) {
            if (error != 0) {
                return error;
            }
        }
        return 0;
    }

    private static long unless(boolean holds, int error) {
        return holds ? 0 : error;
    }

    private static boolean in(int number, int low, int high) {
        return number >= low && number <= high;
    }

    private static boolean guest(int number) {
        return in(number, 0, 5);
    }

    private static boolean page(int number) {
        return in(number, 0, 11);
    }

    private static void set() {
        int[] low = {1, 0, 0, 0};
        int[] high = {8, 1, 2, 1};
        for (int setting = -1; setting <= 4; setting++) {
            for (int value = -1; value <= 9; value++) {
                boolean right = in(setting, 0, 3) && in(value, low[setting & 3], high[setting & 3]);
                long answer = Houses.fresh().set(setting, value);
                Due.due("set(" + setting + ", " + value + ") is right", answer >= 0 ? 1 : 0, right ? 1 : 0);
                Due.due("set(" + setting + ", " + value + ")", right ? 0 : answer, right ? 0 : BAD_VALUE);
            }
        }
    }

    private static void own() {
        for (int page : PAGES) {
            for (int guest : GUESTS_OR_NONE) {
                Due.due("own(" + page + ", " + guest + ")", Houses.fresh().own(page, guest),
                    first(unless(page(page), NO_SUCH), unless(guest == NONE || guest(guest), NO_SUCH)));
            }
        }
    }

    /** Guest 0 owns page 0 and guest 5 page 11; so many stamps. */
    private static VisaPages twoOwners(int stamps) {
        VisaPages x = new VisaPages();
        x.own(0, 0);
        x.own(11, 5);
        for (int stamp = 0; stamp < stamps; stamp++) {
            x.stamp(0, 1, 0, 7);
        }
        return x;
    }

    private static void stamp(int made) {
        for (int giver : GUESTS) {
            for (int guest : GUESTS) {
                for (int page : PAGES) {
                    for (int rights : RIGHTS) {
                        boolean owner = giver == 0 && page == 0 || giver == 5 && page == 11;
                        long error = first(unless(guest(giver) && guest(guest) && page(page), NO_SUCH),
                            unless(in(rights, 1, 7), BAD_VALUE), unless(made < 40, TOO_MANY), unless(owner, NOT_POSSIBLE));
                        Due.due("stamp(" + giver + ", " + guest + ", " + page + ", " + rights + ") after " + made,
                            twoOwners(made).stamp(giver, guest, page, rights), error == 0 ? made : error);
                    }
                }
            }
        }
    }

    private static void forge(int made) {
        for (int giver : GUESTS) {
            for (int guest : GUESTS) {
                for (int page : PAGES) {
                    for (int rights : RIGHTS) {
                        for (int root : new int[] {-7, NONE, -5, -1, 0, made - 1, made}) {
                            boolean there = guest(giver) && guest(guest) && page(page)
                                && (root == NONE || in(root, 0, made - 1));
                            long error = first(unless(there, NO_SUCH), unless(in(rights, 1, 7), BAD_VALUE),
                                unless(made < 40, TOO_MANY));
                            Due.due("forge(" + giver + ", " + guest + ", " + page + ", " + rights + ", " + root + ") after "
                                + made, twoOwners(made).forge(giver, guest, page, rights, root), error == 0 ? made : error);
                        }
                    }
                }
            }
        }
    }

    /** As twoOwners(), but the last stamp is spoiled in one of the ways for which it can't be passed on. */
    private static VisaPages spoiled(int made, int way) {
        VisaPages x = twoOwners(Math.max(0, made - 1));
        switch (way) {
            case 0: x.stamp(0, 1, 0, 7); break;
            case 1: x.stamp(0, 1, 0, 3); break;
            case 2: x.stamp(0, 1, 0, 4); break;
            case 3: x.forge(0, 1, 0, 7, NONE); break;
            case 4: x.stamp(0, 1, 0, 7); x.takeBack(made - 1); break;
            default: x.stamp(0, 1, 0, 7); x.own(0, 3); break;
        }
        return x;
    }

    private static void pass(int made) {
        for (int way = 0; way < (made == 0 ? 0 : 6); way++) {
            for (int stamp : new int[] {-7, NONE, -1, made - 1, made, made + 1}) {
                for (int guest : GUESTS) {
                    for (int rights : RIGHTS) {
                        long error = first(unless(in(stamp, 0, made - 1) && guest(guest), NO_SUCH),
                            unless(in(rights, 1, 7), BAD_VALUE), unless(made < 40, TOO_MANY), unless(way == 0, NOT_POSSIBLE));
                        Due.due("pass(" + stamp + ", " + guest + ", " + rights + ") after " + made + ", spoiled by " + way,
                            spoiled(made, way).pass(stamp, guest, rights), error == 0 ? made : error);
                    }
                }
            }
        }
        if (made == 0) {
            Due.due("pass(0, 0, 1) without stamps", twoOwners(0).pass(0, 0, 1), NO_SUCH);
            Due.due("pass(0, 6, 0) without stamps", twoOwners(0).pass(0, 6, 0), NO_SUCH);
        }
    }

    private static void door(int made) {
        for (int guest : GUESTS) {
            for (int door : DOORS) {
                for (int stamp : new int[] {-7, NONE, -5, -1, 0, made - 1, made}) {
                    boolean there = guest(guest) && in(door, 0, 9) && (stamp == NONE || in(stamp, 0, made - 1));
                    Due.due("door(" + guest + ", " + door + ", " + stamp + ") after " + made,
                        twoOwners(made).door(guest, door, stamp), there ? 0 : NO_SUCH);
                }
            }
        }
    }

    private static void takeBack(int made) {
        for (int stamp : new int[] {-7, NONE, -1, 0, made - 1, made}) {
            boolean there = in(stamp, 0, made - 1);
            VisaPages x = twoOwners(made);
            Due.due("takeBack(" + stamp + ") after " + made, x.takeBack(stamp), there ? 0 : NO_SUCH);
            Due.due("takeBack(" + stamp + ") again", x.takeBack(stamp), there ? NOT_POSSIBLE : NO_SUCH);
        }
    }

    private static void come() {
        for (int guest : GUESTS) {
            for (int door : DOORS) {
                for (int need : NEEDS) {
                    long error = first(unless(guest(guest) && in(door, 0, 9), NO_SUCH), unless(in(need, 1, 2), BAD_VALUE));
                    Due.due("come(" + guest + ", " + door + ", " + need + ")", Houses.fresh().come(guest, door, need),
                        error == 0 ? 1 : error);
                }
            }
        }
    }

    private static void ofPage() {
        int[] due = {NONE, 0, 0, 0};
        for (int page : PAGES) {
            for (int what = -1; what <= 4; what++) {
                long error = first(unless(page(page), NO_SUCH), unless(in(what, 0, 3), BAD_VALUE));
                Due.due("ofPage(" + page + ", " + what + ")", Houses.fresh().ofPage(page, what),
                    error == 0 ? due[what & 3] : error);
            }
        }
    }

    private static void ofStamp() {
        int[] due = {0, 0, 1, 7, NONE, 0, 0, 1, 1, 0};
        for (int stamp : new int[] {-1, 0, 1, 2}) {
            for (int what = -1; what <= 10; what++) {
                long error = first(unless(in(stamp, 0, 1), NO_SUCH), unless(in(what, 0, 9), BAD_VALUE));
                Due.due("ofStamp(" + stamp + ", " + what + ")", twoOwners(2).ofStamp(stamp, what),
                    error == 0 ? due[what] : error);
            }
        }
    }

    private static void leads() {
        for (int guest : GUESTS) {
            for (int door : DOORS) {
                boolean there = guest(guest) && in(door, 0, 9);
                Due.due("leads(" + guest + ", " + door + ")", Houses.fresh().leads(guest, door), there ? NONE : NO_SUCH);
            }
        }
    }

    private static void note() {
        for (int note = -1; note <= 3; note++) {
            for (int what = -1; what <= 4; what++) {
                long error = first(unless(in(note, 0, 2), NO_SUCH), unless(in(what, 0, 3), BAD_VALUE));
                Due.due("note(" + note + ", " + what + ")", Houses.noted(3).note(note, what),
                    error == 0 ? new int[] {1, note, 1, 0}[what] : error);
            }
        }
    }

    private static void walk() {
        for (int guest : GUESTS) {
            for (int door : DOORS) {
                for (int need : NEEDS) {
                    for (int what = -1; what <= 2; what++) {
                        long error = first(unless(guest(guest) && in(door, 0, 9), NO_SUCH), unless(in(need, 1, 2), BAD_VALUE),
                            unless(in(what, 0, 1), BAD_VALUE));
                        Due.due("walk(" + guest + ", " + door + ", " + need + ", " + what + ")",
                            Houses.fresh().walk(guest, door, need, what), error == 0 ? 1 - what : error);
                    }
                }
            }
        }
    }

    /** Bad characters on a pad that has no room for them, either. */
    private static void put() {
        VisaPages x = Houses.fresh();
        Due.putText(x, "t".repeat(80));
        Due.due("put(0) on a full pad", x.put(0), BAD_VALUE);
        Due.due("put(32) on a full pad", x.put(32), BAD_VALUE);
        Due.due("put(127) on a full pad", x.put(127), BAD_VALUE);
        Due.due("put of a gap on a full pad", x.put('t' << 16 | 't'), BAD_VALUE);
        Due.due("put of a good one on a full pad", x.put('t'), TOO_MANY);
        VisaPages y = Houses.fresh();
        Due.putText(y, "t".repeat(79));
        Due.due("put of a bad one and a good one on 79", y.put(32L << 8 | 't'), BAD_VALUE);
        Due.due("put of two good ones on 79", y.put((long) 't' << 8 | 't'), TOO_MANY);
    }

    private static void slots() {
        for (int slot = -1; slot <= 2; slot++) {
            Due.due("save(" + slot + ")", Houses.fresh().save(slot), in(slot, 0, 1) ? 0 : BAD_VALUE);
            Due.due("restore(" + slot + ") of nothing", Houses.fresh().restore(slot),
                in(slot, 0, 1) ? NOT_POSSIBLE : BAD_VALUE);
        }
    }

    /** The mixtures that the promises name, once more in plain rows. */
    private static void inOnePlace() {
        VisaPages x = Houses.full();
        Due.due("stamp: NO_SUCH, BAD_VALUE, TOO_MANY, NOT_POSSIBLE", x.stamp(1, 6, 0, 0), NO_SUCH);
        Due.due("stamp: BAD_VALUE, TOO_MANY, NOT_POSSIBLE", x.stamp(1, 1, 0, 0), BAD_VALUE);
        Due.due("stamp: TOO_MANY, NOT_POSSIBLE", x.stamp(1, 1, 0, 1), TOO_MANY);
        Due.due("stamp: NOT_POSSIBLE", Houses.stamped(39).stamp(1, 1, 0, 1), NOT_POSSIBLE);
        x.takeBack(0);
        Due.due("pass: NO_SUCH, BAD_VALUE, TOO_MANY, NOT_POSSIBLE", x.pass(0, 6, 0), NO_SUCH);
        Due.due("pass: BAD_VALUE, TOO_MANY, NOT_POSSIBLE", x.pass(0, 1, 0), BAD_VALUE);
        Due.due("pass: TOO_MANY, NOT_POSSIBLE", x.pass(0, 1, 1), TOO_MANY);
        VisaPages y = Houses.stamped(39);
        y.takeBack(0);
        Due.due("pass: NOT_POSSIBLE", y.pass(0, 1, 1), NOT_POSSIBLE);
        Due.due("forge: NO_SUCH, BAD_VALUE, TOO_MANY", x.forge(0, 1, 0, 0, 40), NO_SUCH);
        Due.due("forge: BAD_VALUE, TOO_MANY", x.forge(0, 1, 0, 0, 39), BAD_VALUE);
        Due.due("forge: TOO_MANY", x.forge(0, 1, 0, 1, 39), TOO_MANY);
        Due.due("takeBack: NOT_POSSIBLE", x.takeBack(0), NOT_POSSIBLE);
        Due.due("come: NO_SUCH, BAD_VALUE", x.come(6, 0, 0), NO_SUCH);
        Due.due("come: BAD_VALUE", x.come(5, 0, 0), BAD_VALUE);
        Due.due("carryOut: BAD_TEXT", x.carryOut(), BAD_TEXT);
    }
}
