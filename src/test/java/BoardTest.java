import java.util.ArrayList;
import java.util.List;

/** The board: each size of it, what is dropped, the three ways of wiping, names, and notes that are kept. */
public final class BoardTest {
    private static final int READ = VisaPages.READ, WRITE = VisaPages.WRITE, NONE = VisaPages.NONE;
    private static final int BOARD = VisaPages.BOARD, NAMES = VisaPages.NAMES, WIPE = VisaPages.WIPE, KEEP = VisaPages.KEEP;

    public static void main(String[] args) {
        eachSize();
        smallerBoards();
        largerBoard();
        droppedIsNotWiped();
        noteOfGuestDoorAndNeed();
        keepEachPlace();
        keepOnAFullBoard();
        names();
        namesWithANote();
        wipeByTakingBack();
        wipeByOwner();
        wipeGoodAgain();
        wipeByDoor();
        wipeOfFullBoards();
        flush();
        badEndsLeaveNoNote();
        Due.end("BoardTest");
    }

    /** The notes as guest door need page, in their order. */
    private static String board(VisaPages x) {
        StringBuilder all = new StringBuilder();
        for (int note = 0; note < x.count(2); note++) {
            for (int what = 0; what < 4; what++) {
                all.append(x.note(note, what));
            }
            all.append(' ');
        }
        return all.toString();
    }

    private static String notes(int firstDoor, int lastDoor) {
        StringBuilder all = new StringBuilder();
        for (int door = firstDoor; door <= lastDoor; door++) {
            all.append("1").append(door).append("10 ");
        }
        return all.toString();
    }

    /** All ten doors of guest 1 lead by stamp 0. */
    private static VisaPages tenDoors(int size) {
        VisaPages x = Houses.stamped(1);
        x.set(BOARD, size);
        for (int door = 0; door < 10; door++) {
            x.door(1, door, 0);
        }
        return x;
    }

    private static void eachSize() {
        for (int size = 1; size <= 8; size++) {
            VisaPages x = tenDoors(size);
            for (int door = 0; door < 10; door++) {
                Due.due("BOARD " + size + ": come", x.come(1, door, READ), 0);
                Due.same("BOARD " + size + ": notes", board(x), notes(Math.max(0, door + 1 - size), door));
                Due.due("BOARD " + size + ": dropped", x.count(8), Math.max(0, door + 1 - size));
            }
            Due.due("BOARD " + size + ": wiped", x.count(7), 0);
            Due.due("BOARD " + size + ": helped", x.count(5), 0);
        }
        VisaPages x = tenDoors(4);
        VisaPages first = Houses.stamped(1);
        for (int door = 0; door < 5; door++) {
            x.come(1, door, READ);
            first.door(1, door, 0);
            first.come(1, door, READ);
        }
        Due.same("the first size is 4", board(first), board(x));
    }

    private static void smallerBoards() {
        for (int from = 1; from <= 8; from++) {
            for (int notes = 0; notes <= from; notes++) {
                for (int to = 1; to <= 8; to++) {
                    VisaPages x = tenDoors(from);
                    for (int door = 0; door < notes; door++) {
                        x.come(1, door, READ);
                    }
                    String call = "BOARD " + from + " with " + notes + " notes, then " + to;
                    Due.due(call, x.set(BOARD, to), from);
                    Due.same(call, board(x), notes(Math.max(0, notes - to), notes - 1));
                    Due.due(call + ": dropped", x.count(8), Math.max(0, notes - to));
                    Due.due(call + ": wiped", x.count(7), 0);
                }
            }
        }
    }

    private static void largerBoard() {
        VisaPages x = tenDoors(1);
        x.come(1, 0, READ);
        x.come(1, 1, READ);
        x.set(BOARD, 2);
        Due.same("dropped notes do not come back", board(x), notes(1, 1));
        x.come(1, 2, READ);
        Due.same("there is room for one more", board(x), notes(1, 2));
        x.come(1, 3, READ);
        Due.same("and not for two", board(x), notes(2, 3));
        for (int[] other : new int[][] {{NAMES, 0}, {NAMES, 1}, {WIPE, 0}, {WIPE, 1}, {WIPE, 2}, {KEEP, 0}, {KEEP, 1}}) {
            x.set(other[0], other[1]);
            Due.same("the other settings drop nothing", board(x), notes(2, 3));
        }
    }

    private static void droppedIsNotWiped() {
        VisaPages x = tenDoors(2);
        for (int door = 0; door < 6; door++) {
            x.come(1, door, READ);
        }
        Due.due("dropped", x.count(8), 4);
        x.set(BOARD, 1);
        Due.due("dropped by set()", x.count(8), 5);
        Due.due("wiped", x.count(7), 0);
        Due.due("flush", x.flush(), 1);
        Due.due("wiped", x.count(7), 1);
        Due.due("dropped", x.count(8), 5);
    }

    private static void noteOfGuestDoorAndNeed() {
        VisaPages x = Houses.stamped(1);
        x.pass(0, 2, 7);
        x.door(1, 1, 0);
        x.door(2, 0, 1);
        x.come(1, 0, READ);
        Due.due("another guest at a door of this number: it walks", x.come(2, 0, READ) + x.count(5), 0);
        Due.due("another door: it walks", x.come(1, 1, READ) + x.count(5), 0);
        Due.due("another need: it walks", x.come(1, 0, WRITE) + x.count(5), 0);
        Due.due("steps", x.count(6), 5);
        Due.same("four notes", board(x), "1010 2010 1110 1020 ");
        Due.due("the same: a note helps", x.come(1, 0, READ), 0);
        Due.due("helped", x.count(5), 1);
        Due.due("for one step", x.count(6), 6);
        Due.due("to write, too", x.come(1, 0, WRITE), 0);
        Due.due("helped", x.count(5), 2);
        Due.due("a chain of two, for one step", x.come(2, 0, READ) * 0 + x.count(6), 8);
        Due.due("it ended with 0 each time", x.ended(0), 7);
    }

    private static void keepEachPlace() {
        for (int keep = 0; keep <= 1; keep++) {
            for (int notes = 1; notes <= 8; notes++) {
                for (int place = 0; place < notes; place++) {
                    VisaPages x = Houses.noted(notes);
                    x.set(KEEP, keep);
                    List<String> want = new ArrayList<>();
                    for (int door = 0; door < notes; door++) {
                        want.add(notes(door, door));
                    }
                    if (keep == 1) {
                        want.add(want.remove(place));
                    }
                    x.come(1, place, READ);
                    String call = "KEEP " + keep + ", note " + place + " of " + notes;
                    Due.same(call, board(x), String.join("", want));
                    Due.due(call + ": helped", x.count(5), 1);
                    Due.due(call + ": wiped", x.count(7), 0);
                    Due.due(call + ": dropped", x.count(8), 0);
                }
            }
        }
    }

    private static void keepOnAFullBoard() {
        VisaPages x = tenDoors(3);
        x.set(KEEP, 1);
        for (int door : new int[] {0, 1, 2, 0, 3}) {
            x.come(1, door, READ);
        }
        Due.same("the note that was kept stays longer", board(x), notes(2, 2) + notes(0, 0) + notes(3, 3));
        x.come(1, 1, READ);
        Due.same("the one that was not is walked again", board(x), notes(0, 0) + notes(3, 3) + notes(1, 1));
        Due.due("dropped", x.count(8), 2);
        VisaPages y = tenDoors(3);
        for (int door : new int[] {0, 1, 2, 0, 3}) {
            y.come(1, door, READ);
        }
        Due.same("with KEEP as 0 it does not", board(y), notes(1, 3));
    }

    private static void names() {
        for (int inside = 0; inside < 6; inside++) {
            for (int guest = 0; guest < 6; guest++) {
                VisaPages x = Houses.noted(3);
                x.come(inside, 9, READ);
                x.set(NAMES, 0);
                Due.due("set() wipes nothing", x.count(2), 3);
                x.come(guest, 9, READ);
                boolean other = guest != inside;
                Due.due("NAMES 0, " + inside + " and then " + guest + ": notes", x.count(2), other ? 0 : 3);
                Due.due("NAMES 0, " + inside + " and then " + guest + ": wiped", x.count(7), other ? 3 : 0);
                Due.due("NAMES 0, " + inside + " and then " + guest + ": in the house", x.count(3), guest);
                VisaPages y = Houses.noted(3);
                y.come(inside, 9, READ);
                y.come(guest, 9, READ);
                Due.due("NAMES 1, " + inside + " and then " + guest + ": notes", y.count(2), 3);
                Due.due("NAMES 1, " + inside + " and then " + guest + ": in the house", y.count(3), guest);
            }
        }
        VisaPages x = Houses.fresh();
        x.set(NAMES, 0);
        Due.due("no notes are wiped", x.come(3, 3, READ) * 0 + x.count(7), 0);
    }

    /** The notes are wiped before one of them is looked for. */
    private static void namesWithANote() {
        VisaPages x = Houses.noted(2);
        x.come(5, 0, READ);
        x.set(NAMES, 0);
        int steps = x.count(6);
        Due.due("guest 1 comes in again", x.come(1, 1, READ), 0);
        Due.due("its note was wiped first", x.count(5), 0);
        Due.same("it has a new one", board(x), notes(1, 1));
        Due.due("wiped", x.count(7), 2);
        Due.due("a walk", x.count(6) - steps, 1);
        Due.due("and stays", x.come(1, 1, READ), 0);
        Due.due("the new one helps", x.count(5), 1);
        Due.due("an error lets nobody in", x.come(2, 1, 0), VisaPages.BAD_VALUE);
        Due.due("and wipes nothing", x.count(2), 1);
    }

    /**
     * Stamps 0 (to 1), 1 (passed to 2), 2 (to 3) for page 0 and 3 (to 4) for page 7, a door and a note for each of them, two
     * notes for stamp 1; stamp 4 is forged for page 0, 5 for page 7, 6 is good for page 0 without a door.
     */
    private static VisaPages threeWays(int wipe) {
        VisaPages x = new VisaPages();
        x.own(0, 0);
        x.own(7, 0);
        x.stamp(0, 1, 0, 7);
        x.pass(0, 2, 7);
        x.stamp(0, 3, 0, 7);
        x.stamp(0, 4, 7, 7);
        x.forge(0, 5, 0, 7, 0);
        x.forge(0, 5, 7, 7, 3);
        x.stamp(0, 5, 0, 7);
        x.set(BOARD, 8);
        for (int guest = 1; guest <= 4; guest++) {
            x.door(guest, guest, guest - 1);
            x.come(guest, guest, READ);
        }
        x.come(2, 2, WRITE);
        x.set(WIPE, wipe);
        Due.same("five notes", board(x), "1110 2210 3310 4417 2220 ");
        return x;
    }

    private static void wiped(String call, VisaPages x, long answer, String left) {
        int stay = left.length() / 5;
        Due.due(call, answer, 5 - stay);
        Due.same(call + ": notes", board(x), left);
        Due.due(call + ": wiped", x.count(7), 5 - stay);
        Due.due(call + ": dropped", x.count(8), 0);
    }

    private static void wipeByTakingBack() {
        String[][] left = {
            {"", "", "", "", "", "", ""},
            {"4417 ", "4417 ", "4417 ", "1110 2210 3310 2220 ", "4417 ", "1110 2210 3310 2220 ", "4417 "},
            {"3310 4417 ", "1110 3310 4417 ", "1110 2210 4417 2220 ", "1110 2210 3310 2220 ", "1110 2210 3310 4417 2220 ",
                "1110 2210 3310 4417 2220 ", "1110 2210 3310 4417 2220 "},
        };
        for (int wipe = 0; wipe <= 2; wipe++) {
            for (int stamp = 0; stamp <= 6; stamp++) {
                VisaPages x = threeWays(wipe);
                wiped("WIPE " + wipe + ", takeBack(" + stamp + ")", x, x.takeBack(stamp), left[wipe][stamp]);
                int before = x.count(7);
                Due.due("again", x.takeBack(stamp), VisaPages.NOT_POSSIBLE);
                Due.due("wiped", x.count(7), before);
            }
        }
    }

    private static void wipeByOwner() {
        String all = "1110 2210 3310 4417 2220 ";
        String[][] left = {{"", "", ""}, {"4417 ", "1110 2210 3310 2220 ", all}, {"4417 ", "1110 2210 3310 2220 ", all}};
        int[] pages = {0, 7, 11};
        for (int wipe = 0; wipe <= 2; wipe++) {
            for (int place = 0; place < 3; place++) {
                for (int owner : new int[] {1, 5, NONE}) {
                    VisaPages x = threeWays(wipe);
                    if (x.ofPage(pages[place], 0) == owner) {
                        owner = 2;
                    }
                    String call = "WIPE " + wipe + ", own(" + pages[place] + ", " + owner + ")";
                    wiped(call, x, x.own(pages[place], owner), left[wipe][place]);
                }
                VisaPages same = threeWays(wipe);
                int owner = same.ofPage(pages[place], 0);
                String call = "WIPE " + wipe + ", own(" + pages[place] + ", " + owner + "), the same owner";
                wiped(call, same, same.own(pages[place], owner), all);
            }
        }
    }

    /** With 2, stamps that get good wipe nothing; and a stamp that was not good before it is taken back wipes nothing. */
    private static void wipeGoodAgain() {
        VisaPages x = threeWays(2);
        x.own(7, 3);
        x.stamp(3, 1, 7, 7);
        x.door(1, 9, 7);
        x.come(1, 9, READ);
        Due.same("a note by the new owner's stamp", board(x), "1110 2210 3310 2220 1917 ");
        Due.due("back to the old owner", x.own(7, 0), 1);
        Due.same("its stamp is good again, the new owner's is not", board(x), "1110 2210 3310 2220 ");
        Due.due("taken back when it is of no use", x.takeBack(7), 0);
        x.takeBack(0);
        Due.due("its child was of no use any more", x.takeBack(1), 0);
        Due.same("notes", board(x), "3310 ");
        VisaPages y = threeWays(1);
        y.takeBack(0);
        y.door(4, 2, 2);
        y.come(3, 3, READ);
        Due.due("with 1 also by a child that was of no use any more", y.takeBack(1), 1);
    }

    private static void wipeByDoor() {
        for (int wipe = 0; wipe <= 2; wipe++) {
            VisaPages x = threeWays(wipe);
            wiped("another guest's door of this number", x, x.door(1, 2, 0), "1110 2210 3310 4417 2220 ");
            wiped("the same stamp", x, x.door(2, 2, 1), "1110 2210 3310 4417 2220 ");
            wiped("another stamp, both needs", x, x.door(2, 2, 6), "1110 3310 4417 ");
            VisaPages y = threeWays(wipe);
            wiped("shut, both needs", y, y.door(2, 2, NONE), "1110 3310 4417 ");
            Due.due("shut again", y.door(2, 2, NONE), 0);
            VisaPages z = threeWays(wipe);
            wiped("the last door", z, z.door(4, 4, NONE), "1110 2210 3310 2220 ");
            VisaPages f = threeWays(wipe);
            wiped("the first door, a forged stamp", f, f.door(1, 1, 4), "2210 3310 4417 2220 ");
        }
        VisaPages x = threeWays(2);
        Due.due("an error wipes nothing", x.door(2, 2, 7), VisaPages.NO_SUCH);
        Due.same("notes", board(x), "1110 2210 3310 4417 2220 ");
    }

    /** Boards of each size that are full: door n of guest 1 leads by stamp n, the odd stamps are for page 1. */
    private static VisaPages fullBoard(int size, int wipe) {
        VisaPages x = new VisaPages();
        x.own(0, 0);
        x.own(1, 0);
        x.set(BOARD, size);
        x.set(WIPE, wipe);
        for (int door = 0; door < size; door++) {
            x.stamp(0, 1, door % 2, 7);
            x.door(1, door, door);
            Due.due("come", x.come(1, door, READ), 0);
        }
        return x;
    }

    private static void wipeOfFullBoards() {
        for (int size = 1; size <= 8; size++) {
            for (int wipe = 0; wipe <= 2; wipe++) {
                String call = "WIPE " + wipe + ", BOARD " + size + ", ";
                for (int stamp = 0; stamp < size; stamp++) {
                    int ofPage = stamp % 2 == 0 ? (size + 1) / 2 : size / 2;
                    VisaPages x = fullBoard(size, wipe);
                    Due.due(call + "takeBack(" + stamp + ")", x.takeBack(stamp), wipe == 0 ? size : wipe == 1 ? ofPage : 1);
                }
                VisaPages x = fullBoard(size, wipe);
                Due.due(call + "own(1, 5)", x.own(1, 5), wipe == 0 ? size : size / 2);
                Due.due(call + "own(0, 5)", x.own(0, 5), wipe == 0 ? 0 : (size + 1) / 2);
                Due.due(call + "notes", x.count(2), 0);
                Due.due(call + "wiped", x.count(7), size);
                VisaPages y = fullBoard(size, wipe);
                Due.due(call + "a page without notes", y.own(2, 5), wipe == 0 ? size : 0);
                VisaPages z = fullBoard(size, wipe);
                Due.due(call + "the last door is shut", z.door(1, size - 1, NONE), 1);
                Due.due(call + "notes", z.count(2), size - 1);
                VisaPages n = fullBoard(size, wipe);
                n.set(NAMES, 0);
                Due.due(call + "another guest", n.come(0, 0, READ), 1);
                Due.due(call + "wiped", n.count(7), size);
            }
        }
    }

    private static void flush() {
        for (int notes = 0; notes <= 8; notes++) {
            VisaPages x = Houses.noted(notes);
            Due.due("flush of " + notes, x.flush(), notes);
            Due.due("flush of " + notes + ": wiped", x.count(7), notes);
            Due.due("flush of " + notes + ": notes", x.count(2), 0);
            Due.due("flush again", x.flush(), 0);
            Due.due("flush of " + notes + ": dropped", x.count(8), 0);
        }
    }

    private static void badEndsLeaveNoNote() {
        VisaPages x = Houses.busy();
        String before = board(x);
        int dropped = x.count(8);
        Due.due("3", x.come(4, 0, READ), 3);
        Due.due("4", x.come(5, 0, READ), 4);
        Due.due("2", x.come(5, 9, READ), 2);
        Due.due("5", x.come(1, 1, READ), 5);
        Due.due("1", x.come(0, 1, READ), 1);
        Due.due("3 again", x.come(4, 0, READ), 3);
        Due.same("no notes of them", board(x), before);
        Due.due("dropped", x.count(8), dropped);
    }
}
