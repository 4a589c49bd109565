/** Houses that tests begin with; each is made with far fewer than 512 calls. */
final class Houses {
    static final int READ = VisaPages.READ, WRITE = VisaPages.WRITE, NONE = VisaPages.NONE;

    interface Maker {
        VisaPages make();
    }

    interface Call {
        long on(VisaPages x);
    }

    private Houses() {
    }

    static VisaPages fresh() {
        return new VisaPages();
    }

    /** Every page is guest 0's; no stamps. */
    static VisaPages owned() {
        VisaPages x = new VisaPages();
        for (int page = 0; page < 12; page++) {
            x.own(page, 0);
        }
        return x;
    }

    /** Page 0 is guest 0's, who gave so many stamps for it with all rights to guest 1; doors 0 of guest 1 leads by 0. */
    static VisaPages stamped(int stamps) {
        VisaPages x = new VisaPages();
        x.own(0, 0);
        for (int stamp = 0; stamp < stamps; stamp++) {
            x.stamp(0, 1, 0, 7);
        }
        if (stamps > 0) {
            x.door(1, 0, 0);
        }
        return x;
    }

    static VisaPages full() {
        return stamped(40);
    }

    /** Page 0 is guest 0's; doors 0 to notes - 1 of guest 1 lead to it by stamp 0, and each has a note to read. */
    static VisaPages noted(int notes) {
        VisaPages x = stamped(1);
        x.set(VisaPages.BOARD, 8);
        for (int door = 0; door < notes; door++) {
            x.door(1, door, 0);
            x.come(1, door, READ);
        }
        return x;
    }

    /**
     * Nearly all has happened: chains, a forged stamp, one taken back, walks that ended for each reason, notes that
     * helped, that were wiped and dropped, both slots saved, a full history, a text with a fault.
     */
    static VisaPages busy() {
        VisaPages x = new VisaPages();
        x.own(0, 0);
        x.own(11, 5);
        x.stamp(0, 1, 0, 7);
        x.pass(0, 2, 7);
        x.pass(1, 3, 3);
        x.forge(0, 4, 0, 7, 1);
        x.stamp(0, 5, 0, 1);
        x.stamp(5, 1, 11, 6);
        x.stamp(5, 0, 11, 7);
        x.takeBack(4);
        int[][] doors = {{1, 0, 0}, {2, 0, 1}, {3, 9, 2}, {4, 0, 3}, {5, 0, 4}, {1, 1, 5}, {0, 0, 6}, {5, 9, 0}};
        for (int[] d : doors) {
            x.door(d[0], d[1], d[2]);
        }
        x.save(0);
        x.own(11, 4);
        int[][] visits = {
            {0, 0, READ}, {1, 1, READ}, {5, 9, READ}, {5, 0, READ}, {4, 0, READ}, {0, 1, READ}, {1, 0, READ},
            {1, 0, WRITE}, {2, 0, READ}, {2, 0, WRITE}, {3, 9, READ}, {3, 9, READ},
        };
        for (int[] v : visits) {
            x.come(v[0], v[1], v[2]);
        }
        x.door(1, 0, NONE);
        x.door(1, 0, 0);
        x.save(1);
        x.set(VisaPages.KEEP, 1);
        x.come(2, 0, READ);
        x.own(11, 5);
        x.forge(3, 3, 3, 3, NONE);
        x.door(3, 3, 7);
        x.come(1, 0, READ);
        Due.putText(x, "o1=2;t");
        return x;
    }

    /** As busy(), but with a text that has no fault, and orders of which the third one answers an error. */
    static VisaPages busyWithText() {
        VisaPages x = busy();
        x.wipe();
        Due.putText(x, "o1=2;?2.0r;t4;t0");
        return x;
    }
}
