/** Counts and prints the answers that are not due. */
final class Due {
    private static int asked = 0;
    private static int wrong = 0;

    private Due() {
    }

    static void due(String call, long got, long want) {
        asked++;
        if (got != want) {
            wrong++;
            System.out.println(call + " answered " + got + ", due is " + want);
        }
    }

    /** Puts a text of any length on the pad, and answers what the last put() did. */
    static int putText(VisaPages x, String text) {
        int answer = 0;
        for (int from = 0; from < text.length(); from += 8) {
            answer = x.put(packed(text.substring(from, Math.min(from + 8, text.length()))));
        }
        return answer;
    }

    static long packed(String signs) {
        long number = 0;
        for (int i = 0; i < signs.length(); i++) {
            number = number << 8 | signs.charAt(i);
        }
        return number;
    }

    /** How many pieces told() falls into, so that a house with 40 stamps can be told within 512 calls of each object. */
    static final int PIECES = 3;

    /** Every answer that tells of the state, but for the pad, the history and the slots. */
    static String told(VisaPages x) {
        StringBuilder all = new StringBuilder();
        for (int piece = 0; piece < PIECES; piece++) {
            all.append(piece(x, piece));
        }
        return all.toString();
    }

    static String piece(VisaPages x, int piece) {
        switch (piece) {
            case 0: return rooms(x);
            case 1: return stamps(x, 0, 20);
            default: return stamps(x, 20, 40);
        }
    }

    private static String rooms(VisaPages x) {
        StringBuilder all = new StringBuilder();
        for (int what = 0; what <= 12; what++) {
            all.append(x.count(what)).append(' ');
        }
        for (int reason = 0; reason < 7; reason++) {
            all.append(x.ended(reason)).append(' ');
        }
        for (int page = 0; page < 12; page++) {
            for (int what = 0; what < 4; what++) {
                all.append(x.ofPage(page, what)).append(' ');
            }
            all.append(x.needless(page)).append(' ');
        }
        for (int note = 0; note < x.count(2); note++) {
            for (int what = 0; what < 4; what++) {
                all.append(x.note(note, what)).append(' ');
            }
        }
        for (int guest = 0; guest < 6; guest++) {
            for (int door = 0; door < 10; door++) {
                all.append(x.leads(guest, door)).append(' ');
            }
        }
        return all.append(x.longest()).append(' ').toString();
    }

    private static String stamps(VisaPages x, int from, int to) {
        StringBuilder all = new StringBuilder();
        int end = Math.min(x.count(0), to);
        for (int stamp = from; stamp < end; stamp++) {
            for (int what = 0; what < 10; what++) {
                all.append(x.ofStamp(stamp, what)).append(' ');
            }
            all.append(x.hides(stamp)).append(' ');
        }
        return all.toString();
    }

    static void same(String call, String got, String want) {
        asked++;
        if (!got.equals(want)) {
            wrong++;
            System.out.println(call + ": the state is\n  " + got + ", due is\n  " + want);
        }
    }

    static void end(String test) {
        System.out.println(test + ": " + asked + " answers, " + wrong + " of them not as due");
        if (wrong != 0 || asked == 0) {
            System.exit(1);
        }
    }
}
