/** The reasons in the order of their numbers, at each stamp of a chain, with the steps; and what makes a stamp good. */
public final class WalkTest {
    private static final int READ = VisaPages.READ, WRITE = VisaPages.WRITE, GIVE = VisaPages.GIVE, NONE = VisaPages.NONE;

    public static void main(String[] args) {
        shutDoor();
        atTheDoorsStamp();
        alongTheChain();
        holderAndNeedAtTheDoorOnly();
        needs();
        stepsOfLongChains();
        ownerOfThePage();
        goodStamps();
        rightsOfChains();
        walkIsComeWithoutTheBoard();
        Due.end("WalkTest");
    }

    private static void ends(String call, VisaPages x, int guest, int door, int need, int reason, int steps) {
        Due.due(call + ": walk, the reason", x.walk(guest, door, need, 0), reason);
        Due.due(call + ": walk, the steps", x.walk(guest, door, need, 1), steps);
        int came = x.ended(reason);
        int before = x.count(6);
        Due.due(call + ": come", x.come(guest, door, need), reason);
        Due.due(call + ": ended(" + reason + ")", x.ended(reason) - came, 1);
        Due.due(call + ": steps", x.count(6) - before, steps);
        Due.due(call + ": a note only if it sees the page", x.count(2), reason == 0 ? 1 : 0);
    }

    private static void shutDoor() {
        for (int guest = 0; guest < 6; guest++) {
            for (int door = 0; door < 10; door++) {
                ends("a new door", Houses.fresh(), guest, door, READ, 1, 0);
                ends("a new door", Houses.fresh(), guest, door, WRITE, 1, 0);
            }
        }
        VisaPages x = Houses.stamped(1);
        x.door(1, 0, NONE);
        ends("a door that was shut", x, 1, 0, READ, 1, 0);
    }

    /** Every mixture of the reasons 2 to 6 at the door's stamp: the lowest one ends the walk, after one step. */
    private static void atTheDoorsStamp() {
        for (int need = READ; need <= WRITE; need++) {
            for (int mix = 0; mix < 32; mix++) {
                VisaPages x = new VisaPages();
                x.own(4, 0);
                int holder = (mix & 1) != 0 ? 2 : 1;
                int rights = (mix & 8) != 0 ? 7 - need : 7;
                if ((mix & 2) != 0) {
                    x.forge(0, holder, 4, rights, NONE);
                } else {
                    x.stamp(0, holder, 4, rights);
                }
                if ((mix & 4) != 0) {
                    x.takeBack(0);
                }
                if ((mix & 16) != 0) {
                    x.own(4, 5);
                }
                x.door(1, 3, 0);
                int reason = mix == 0 ? 0 : 2 + Integer.numberOfTrailingZeros(mix);
                ends("mixture " + mix + ", need " + need, x, 1, 3, need, reason, 1);
            }
        }
    }

    /** A chain 0 <- 1 <- 2 <- 3; some stamps are taken back, perhaps the page changes hands: the first one ends it. */
    private static void alongTheChain() {
        for (int taken = 0; taken < 16; taken++) {
            for (int owner : new int[] {0, NONE, 5}) {
                VisaPages x = Houses.stamped(1);
                x.pass(0, 2, 7);
                x.pass(1, 3, 7);
                x.pass(2, 4, 3);
                x.door(4, 6, 3);
                x.own(0, owner);
                int steps = 4;
                int reason = owner == 0 ? 0 : 6;
                for (int stamp = 0; stamp < 4; stamp++) {
                    if ((taken >> stamp & 1) != 0) {
                        x.takeBack(stamp);
                        steps = 4 - stamp;
                        reason = 4;
                    }
                }
                ends("taken back " + taken + ", owner " + owner, x, 4, 6, WRITE, reason, steps);
                x.door(1, 9, 3);
                x.flush();
                Due.due("another guest's", x.walk(1, 9, READ, 0), 2);
                Due.due("another guest's, steps", x.walk(1, 9, READ, 1), 1);
            }
        }
    }

    private static void holderAndNeedAtTheDoorOnly() {
        VisaPages x = Houses.stamped(1);
        x.pass(0, 5, READ | GIVE);
        x.pass(1, 3, READ);
        x.door(3, 0, 2);
        ends("a root's holder is another guest", x, 3, 0, READ, 0, 3);
        VisaPages y = Houses.stamped(1);
        y.pass(0, 5, READ | GIVE);
        y.pass(1, 3, READ);
        y.door(3, 0, 2);
        ends("the door's stamp lacks WRITE, its first root does not", y, 3, 0, WRITE, 5, 1);
        VisaPages z = Houses.stamped(1);
        z.pass(0, 5, 7);
        z.pass(1, 3, READ);
        z.takeBack(1);
        z.door(3, 0, 2);
        ends("5 at the door's stamp comes before 4 at its root", z, 3, 0, WRITE, 5, 1);
    }

    private static void needs() {
        for (int rights = 1; rights <= 7; rights++) {
            for (int need = READ; need <= WRITE; need++) {
                VisaPages x = new VisaPages();
                x.own(0, 0);
                x.stamp(0, 1, 0, rights);
                x.door(1, 0, 0);
                ends("rights " + rights + ", need " + need, x, 1, 0, need, (rights & need) != 0 ? 0 : 5, 1);
            }
        }
    }

    private static VisaPages chain(int stamps) {
        VisaPages x = new VisaPages();
        x.own(11, 5);
        x.stamp(5, 4, 11, 7);
        for (int stamp = 1; stamp < stamps; stamp++) {
            x.pass(stamp - 1, 4, 7);
        }
        x.door(4, 9, stamps - 1);
        return x;
    }

    private static void stepsOfLongChains() {
        for (int stamps = 1; stamps <= 40; stamps++) {
            ends("a chain of " + stamps, chain(stamps), 4, 9, WRITE, 0, stamps);
            VisaPages x = chain(stamps);
            x.own(11, 4);
            ends("a chain of " + stamps + " to a former owner", x, 4, 9, READ, 6, stamps);
            VisaPages y = chain(stamps);
            y.takeBack(0);
            ends("a chain of " + stamps + " whose first one was taken back", y, 4, 9, READ, 4, stamps);
            VisaPages z = chain(stamps);
            z.takeBack(stamps - 1);
            ends("a chain of " + stamps + " whose last one was taken back", z, 4, 9, READ, 4, 1);
        }
    }

    private static void ownerOfThePage() {
        for (int owner = 0; owner < 6; owner++) {
            VisaPages x = new VisaPages();
            x.own(8, owner);
            x.stamp(owner, owner, 8, 1);
            x.door(owner, 1, 0);
            Due.due("the owner's own stamp", x.come(owner, 1, READ), 0);
            x.own(8, NONE);
            Due.due("the owner gave the page away", x.come(owner, 1, READ), 6);
            x.own(8, (owner + 1) % 6);
            Due.due("to another guest", x.come(owner, 1, READ), 6);
            x.own(8, owner);
            Due.due("and is the owner again", x.come(owner, 1, READ), 0);
        }
        VisaPages x = Houses.owned();
        Due.due("the owner has no door without a stamp", x.come(0, 0, READ), 1);
        Due.due("and could read the page", x.ofPage(0, 1), 1);
    }

    private static void good(String what, VisaPages x, int stamp, int want) {
        Due.due(what + ": good", x.ofStamp(stamp, 7), want);
        Due.due(what + ": can be passed", x.pass(stamp, 0, 1) >= 0 ? 1 : 0, want);
    }

    private static void goodStamps() {
        good("by the owner", Houses.stamped(1), 0, 1);
        VisaPages x = Houses.stamped(1);
        x.own(0, 2);
        good("by a former owner", x, 0, 0);
        x = Houses.stamped(1);
        x.own(0, NONE);
        good("of nobody's page", x, 0, 0);
        x = Houses.stamped(1);
        x.takeBack(0);
        good("taken back", x, 0, 0);
        x = Houses.stamped(1);
        x.forge(0, 1, 0, 7, NONE);
        good("forged in the owner's name", x, 1, 0);
        x = Houses.stamped(1);
        x.forge(1, 2, 0, 7, 0);
        good("forged with a good root", x, 1, 0);
        x = Houses.stamped(1);
        x.pass(0, 2, 7);
        good("with a good root", x, 1, 1);
        x = Houses.stamped(1);
        x.pass(0, 2, 7);
        x.takeBack(0);
        good("with a root that was taken back", x, 1, 0);
        x = Houses.stamped(1);
        x.pass(0, 2, 7);
        x.pass(1, 3, 7);
        x.takeBack(0);
        good("with such a one further up", x, 2, 0);
        x = Houses.stamped(1);
        x.pass(0, 2, 7);
        x.own(0, 1);
        good("whose root is a former owner's", x, 1, 0);
        x = Houses.stamped(1);
        x.pass(0, 2, 7);
        x.takeBack(1);
        good("whose child was taken back", x, 0, 1);
        x = Houses.stamped(2);
        x.pass(1, 2, 7);
        x.takeBack(0);
        good("with a twin that was taken back", x, 2, 1);
    }

    /** A stamp gives on what it has, and only if it has 4. */
    private static void rightsOfChains() {
        for (int has = 1; has <= 7; has++) {
            for (int wants = 1; wants <= 7; wants++) {
                VisaPages x = new VisaPages();
                x.own(0, 0);
                x.stamp(0, 1, 0, has);
                boolean may = (has & GIVE) != 0 && (wants & ~has) == 0;
                Due.due("pass " + wants + " of " + has, x.pass(0, 2, wants), may ? 1 : VisaPages.NOT_POSSIBLE);
                Due.due("pass " + wants + " of " + has + ": stamps", x.count(0), may ? 2 : 1);
            }
        }
    }

    /** walk() tells of the walk, also where a note would spare it. */
    private static void walkIsComeWithoutTheBoard() {
        VisaPages x = chain(5);
        x.come(4, 9, READ);
        Due.due("steps with a note on the board", x.walk(4, 9, READ, 1), 5);
        Due.due("reason with a note on the board", x.walk(4, 9, READ, 0), 0);
        Due.due("walk() uses no note", x.count(5), 0);
        Due.due("walk() costs no steps", x.count(6), 5);
        Due.due("walk() is no visit", x.count(4), 1);
        x.walk(0, 0, READ, 0);
        Due.due("walk() lets nobody in", x.count(3), 4);
        x.set(VisaPages.NAMES, 0);
        x.walk(0, 0, READ, 0);
        Due.due("walk() wipes nothing", x.count(2), 1);
        x.walk(4, 9, WRITE, 0);
        Due.due("walk() notes nothing", x.count(2), 1);
    }
}
