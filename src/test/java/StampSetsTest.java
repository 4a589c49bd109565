/** Which stamps are forged and which were taken back: for each number of a stamp, and through undo and saved states. */
public final class StampSetsTest {
    private static final int READ = VisaPages.READ, NONE = VisaPages.NONE;

    public static void main(String[] args) {
        eachNumberTakenBack();
        eachNumberForged();
        bothAtOnce();
        undone();
        restored();
        Due.end("StampSetsTest");
    }

    private static void due(String call, long got, long want) {
        Due.due(call, got, want);
    }

    private static void eachNumberTakenBack() {
        for (int gone = 0; gone < 40; gone++) {
            VisaPages x = Houses.full();
            due("takeBack(" + gone + ")", x.takeBack(gone), 0);
            due("again", x.takeBack(gone), VisaPages.NOT_POSSIBLE);
            for (int stamp = 0; stamp < 40; stamp++) {
                String where = "stamp " + stamp + " when " + gone + " was taken back: ";
                due(where + "forged", x.ofStamp(stamp, 5), 0);
                due(where + "taken back", x.ofStamp(stamp, 6), stamp == gone ? 1 : 0);
                due(where + "good", x.ofStamp(stamp, 7), stamp == gone ? 0 : 1);
                x.door(1, 1, stamp);
                due(where + "walk", x.walk(1, 1, READ, 0), stamp == gone ? 4 : 0);
            }
            due("good stamps", x.count(1), 39);
            due("needless", x.needless(0), (1L << 40) - 1 - (1L << gone));
        }
    }

    private static void eachNumberForged() {
        for (int forged = 0; forged < 40; forged++) {
            VisaPages x = new VisaPages();
            x.own(0, 0);
            for (int stamp = 0; stamp < 40; stamp++) {
                int made = stamp == forged ? x.forge(0, 1, 0, 7, NONE) : x.stamp(0, 1, 0, 7);
                due("the number of a stamp", made, stamp);
            }
            for (int stamp = 0; stamp < 40; stamp++) {
                String where = "stamp " + stamp + " when " + forged + " is forged: ";
                due(where + "forged", x.ofStamp(stamp, 5), stamp == forged ? 1 : 0);
                due(where + "taken back", x.ofStamp(stamp, 6), 0);
                due(where + "good", x.ofStamp(stamp, 7), stamp == forged ? 0 : 1);
                x.door(1, 1, stamp);
                due(where + "walk", x.walk(1, 1, READ, 0), stamp == forged ? 3 : 0);
            }
            due("good stamps", x.ofPage(0, 3), 39);
        }
    }

    private static void bothAtOnce() {
        VisaPages x = Houses.stamped(2);
        x.forge(0, 1, 0, 7, 0);
        due("a forged stamp is taken back", x.takeBack(2), 0);
        due("it is forged still", x.ofStamp(2, 5), 1);
        due("and was taken back", x.ofStamp(2, 6), 1);
        due("it is so once", x.takeBack(2), VisaPages.NOT_POSSIBLE);
        x.door(1, 1, 2);
        due("3 comes before 4", x.walk(1, 1, READ, 0), 3);
        due("the others are good", x.count(1), 2);
    }

    /** Stamp 2 is forged, taken back, undone and made again, by its owner. */
    private static void undone() {
        VisaPages x = Houses.stamped(2);
        x.forge(0, 1, 0, 7, NONE);
        x.takeBack(2);
        x.takeBack(1);
        x.undo();
        due("1 was not taken back", x.ofStamp(1, 6), 0);
        due("2 was", x.ofStamp(2, 6), 1);
        x.undo();
        due("2 was not taken back", x.ofStamp(2, 6), 0);
        due("2 is forged", x.ofStamp(2, 5), 1);
        x.undo();
        due("2 once more", x.stamp(0, 2, 0, 7), 2);
        due("it is not forged", x.ofStamp(2, 5), 0);
        due("it is good", x.ofStamp(2, 7), 1);
        due("it can be taken back", x.takeBack(2), 0);
    }

    private static void restored() {
        VisaPages x = Houses.stamped(2);
        x.save(0);
        x.forge(0, 1, 0, 7, NONE);
        x.takeBack(0);
        x.save(1);
        x.restore(0);
        due("slot 0: 0 was not taken back", x.ofStamp(0, 6), 0);
        due("slot 0: 2 once more", x.stamp(0, 1, 0, 7), 2);
        due("slot 0: it is not forged", x.ofStamp(2, 5), 0);
        x.takeBack(1);
        x.restore(1);
        due("slot 1: 0 was taken back", x.ofStamp(0, 6), 1);
        due("slot 1: 1 was not", x.ofStamp(1, 6), 0);
        due("slot 1: 2 is forged", x.ofStamp(2, 5), 1);
        due("slot 1: good stamps", x.count(1), 1);
    }
}
