import java.util.Arrays;

/** What can be put on the pad: characters by their codes and places, room for 80; and what orders of a text do. */
public final class PadTest {
    private static final int BAD_VALUE = VisaPages.BAD_VALUE, BAD_TEXT = VisaPages.BAD_TEXT, TOO_MANY = VisaPages.TOO_MANY;
    private static final int NONE = VisaPages.NONE, READ = VisaPages.READ, WRITE = VisaPages.WRITE;

    public static void main(String[] args) {
        oneCharacter();
        eachCodeAtEachPlace();
        oneToEight();
        gaps();
        room();
        wipeEachLength();
        ordersWithNumbersThatAreNone();
        ordersAreTheCalls();
        stopsAtTheFirstError();
        reasonsAreNoErrors();
        manyOrders();
        oneChange();
        padOutsideOfTheHistory();
        Due.end("PadTest");
    }

    private static void oneCharacter() {
        for (int code = 0; code <= 255; code++) {
            boolean right = code >= 33 && code <= 126;
            VisaPages x = new VisaPages();
            Due.due("put(" + code + ")", x.put(code), right ? 1 : BAD_VALUE);
            Due.due("put(" + code + "): length", x.count(13), right ? 1 : 0);
        }
        for (long code = 256; code < 1L << 62; code *= 2) {
            Due.due("put(" + code + ")", new VisaPages().put(code), BAD_VALUE);
            boolean two = code == '@' << 8;
            Due.due("put(" + (code | 't') + ")", new VisaPages().put(code | 't'), two ? 2 : BAD_VALUE);
        }
    }

    private static void eachCodeAtEachPlace() {
        for (int place = 0; place < 8; place++) {
            for (int code = 1; code <= 255; code++) {
                long others = Due.packed("tttttttt") & ~(255L << 8 * place);
                boolean right = code >= 33 && code <= 126;
                VisaPages x = new VisaPages();
                Due.due("put with " + code + " at " + place, x.put(others | (long) code << 8 * place), right ? 8 : BAD_VALUE);
                Due.due("put with " + code + " at " + place + ": length", x.count(13), right ? 8 : 0);
            }
        }
    }

    private static void oneToEight() {
        String text = "o1=2;t12";
        for (int many = 1; many <= 8; many++) {
            VisaPages x = new VisaPages();
            Due.due("put of " + many, x.put(Due.packed(text.substring(0, many))), many);
        }
        VisaPages x = new VisaPages();
        x.put(0x6F313D32L);
        Due.due("the lowest 8 bits are the last character", x.fault(), NONE);
        Due.due("carryOut", x.carryOut(), 1);
        Due.due("o1=2", x.ofPage(1, 0), 2);
        x.put(0x323D316FL);
        Due.due("the other way round it is no order", x.fault(), 0);
    }

    /** 8 bits that are 0, and anything above them. */
    private static void gaps() {
        for (int place = 0; place < 7; place++) {
            for (int bit = 8 * place + 8; bit < 64; bit++) {
                long below = Due.packed("tttttttt".substring(0, place));
                Due.due("put with 0 at " + place + " and bit " + bit, new VisaPages().put(below | 1L << bit), BAD_VALUE);
            }
        }
        Due.due("put(0)", new VisaPages().put(0L), BAD_VALUE);
        Due.due("put(-1)", new VisaPages().put(-1L), BAD_VALUE);
        Due.due("put of the lowest", new VisaPages().put(Long.MIN_VALUE), BAD_VALUE);
        Due.due("put of the highest", new VisaPages().put(Long.MAX_VALUE), BAD_VALUE);
        Due.due("eight of the highest code", new VisaPages().put(0x7E7E7E7E7E7E7E7EL), 8);
        Due.due("eight of the lowest code", new VisaPages().put(0x2121212121212121L), 8);
    }

    private static void room() {
        for (int before = 72; before <= 80; before++) {
            for (int more = 1; more <= 8; more++) {
                VisaPages x = new VisaPages();
                Due.putText(x, "t".repeat(before));
                boolean fits = before + more <= 80;
                Due.due("put of " + more + " on " + before, x.put(Due.packed("oooooooo".substring(0, more))),
                    fits ? before + more : TOO_MANY);
                Due.due("put of " + more + " on " + before + ": length", x.count(13), fits ? before + more : before);
            }
        }
    }

    private static void wipeEachLength() {
        for (int length = 0; length <= 80; length++) {
            VisaPages x = new VisaPages();
            Due.putText(x, "t".repeat(length));
            Due.due("wipe of " + length, x.wipe(), length);
            Due.due("wipe of " + length + ": length", x.count(13), 0);
            Due.due("wipe again", x.wipe(), 0);
            Due.due("there is room again", Due.putText(x, "t".repeat(80)), 80);
        }
    }

    private static void carries(String text, VisaPages x, int orders) {
        Due.putText(x, text);
        Due.due("carryOut of " + text, x.carryOut(), orders);
        Due.due("the pad is empty after " + text, x.count(13), 0);
    }

    /** Texts take pages and stamps up to 99; the house has twelve pages and the stamps that were made. */
    private static void ordersWithNumbersThatAreNone() {
        carries("o11=1", Houses.stamped(3), 1);
        carries("o12=1", Houses.stamped(3), 0);
        carries("o99=1", Houses.stamped(3), 0);
        carries("s0>1:0*1", Houses.stamped(3), 1);
        carries("s0>1:12*1", Houses.stamped(3), 0);
        carries("s0>1:1*1", Houses.stamped(3), 0);
        carries("p2>1*1", Houses.stamped(3), 1);
        carries("p3>1*1", Houses.stamped(3), 0);
        carries("p99>1*1", Houses.stamped(3), 0);
        carries("t2", Houses.stamped(3), 1);
        carries("t3", Houses.stamped(3), 0);
        carries("t39", Houses.full(), 1);
        carries("t40", Houses.full(), 0);
        carries("d1.1=2", Houses.stamped(3), 1);
        carries("d1.1=3", Houses.stamped(3), 0);
        carries("d1.1=-", Houses.stamped(0), 1);
        carries("o1=-", Houses.stamped(0), 1);
        carries("s0>1:0*1", Houses.full(), 0);
        carries("p0>1*1", Houses.full(), 0);
        carries("?1.0r", Houses.fresh(), 1);
    }

    private static void sameAs(String text, Houses.Call calls) {
        VisaPages x = Houses.busy();
        x.wipe();
        VisaPages twin = Houses.busy();
        twin.wipe();
        Due.putText(x, text);
        x.carryOut();
        calls.on(twin);
        Due.same("the orders " + text, Due.told(x), Due.told(twin));
    }

    private static void ordersAreTheCalls() {
        for (int guest = 0; guest <= 5; guest++) {
            int g = guest;
            sameAs("o11=" + g, x -> x.own(11, g));
            sameAs("s0>" + g + ":0*5", x -> x.stamp(0, g, 0, 5));
            sameAs("p1>" + g + "*3", x -> x.pass(1, g, 3));
            sameAs("d" + g + ".7=5", x -> x.door(g, 7, 5));
            sameAs("?" + g + ".0r", x -> x.come(g, 0, READ));
            sameAs("?" + g + ".0w", x -> x.come(g, 0, WRITE));
        }
        for (int stamp = 0; stamp <= 7; stamp++) {
            int s = stamp;
            sameAs("t" + s, x -> x.takeBack(s));
            sameAs("p" + s + ">2*2", x -> x.pass(s, 2, 2));
            sameAs("d2.0=" + s, x -> x.door(2, 0, s));
        }
        for (int rights = 1; rights <= 7; rights++) {
            int r = rights;
            sameAs("s0>2:0*" + r, x -> x.stamp(0, 2, 0, r));
            sameAs("p0>2*" + r, x -> x.pass(0, 2, r));
        }
        for (int door = 0; door <= 9; door++) {
            int d = door;
            sameAs("d3." + d + "=-", x -> x.door(3, d, NONE));
            sameAs("?3." + d + "r", x -> x.come(3, d, READ));
        }
        for (int page = 0; page <= 11; page++) {
            int p = page;
            sameAs("o" + p + "=-", x -> x.own(p, NONE));
            sameAs("o" + p + "=4", x -> x.own(p, 4));
            sameAs("s5>4:" + p + "*6", x -> x.stamp(5, 4, p, 6));
        }
    }

    private static void stopsAtTheFirstError() {
        String[] good = {"o1=1", "s0>1:0*7", "p0>2*1", "d1.1=0", "?1.1r", "o2=2", "t0"};
        String[] bad = {"o12=0", "s1>1:0*1", "p39>1*1", "t39", "d1.1=39", "t2"};
        for (String error : bad) {
            for (int at = 0; at <= good.length; at++) {
                VisaPages x = Houses.stamped(1);
                x.stamp(0, 1, 0, 1);
                x.forge(0, 1, 0, 1, 0);
                x.takeBack(2);
                VisaPages twin = Houses.stamped(1);
                twin.stamp(0, 1, 0, 1);
                twin.forge(0, 1, 0, 1, 0);
                twin.takeBack(2);
                String first = String.join(";", Arrays.copyOf(good, at));
                String rest = String.join(";", Arrays.copyOfRange(good, at, good.length));
                carries(first + (at == 0 ? "" : ";") + error + (at == good.length ? "" : ";") + rest, x, at);
                if (at > 0) {
                    carries(first, twin, at);
                }
                Due.same("after " + first + " and " + error, Due.told(x), Due.told(twin));
            }
        }
    }

    /** An order that tells of a bad end, 1 to 6, was carried out. */
    private static void reasonsAreNoErrors() {
        VisaPages x = Houses.busy();
        x.wipe();
        int came = x.count(4);
        carries("?4.0r;?5.0r;?5.9r;?1.1r;?0.1r;o11=4;?0.0r;?1.0r", x, 8);
        Due.due("came", x.count(4) - came, 7);
        for (int reason = 1; reason <= 6; reason++) {
            Due.due("ended(" + reason + ")", x.ended(reason), 2);
        }
    }

    private static void manyOrders() {
        VisaPages x = Houses.full();
        StringBuilder text = new StringBuilder("t0");
        for (int stamp = 1; stamp <= 9; stamp++) {
            text.append(";t").append(stamp);
        }
        for (int stamp = 10; stamp < 22; stamp++) {
            text.append(";t").append(stamp);
        }
        Due.due("77 characters", text.length(), 77);
        carries(text + ";t9", x, 22);
        Due.due("good stamps", x.count(1), 18);
        VisaPages y = Houses.fresh();
        for (int order = 0; order < 3; order++) {
            carries("o0=0;o0=1;o0=2;o0=3;o0=4;o0=5;o0=0;o0=1;o0=2;o0=3;o0=4;o0=5;o0=0;o0=1;o0=2;o0=-", y, 16);
        }
        VisaPages z = Houses.stamped(27);
        carries("t0;t1;t2;t3;t4;t5;t6;t7;t8;t9;?1.0r;?1.0r;?1.0r;?1.0r;?1.0r;?1.0r;?1.0r;?1.0r", z, 18);
        Due.due("eight visits", z.ended(4), 8);
    }

    private static void oneChange() {
        VisaPages x = Houses.fresh();
        x.own(9, 1);
        carries("o0=0;o1=1;o2=2;o3=3;o4=4;o5=5;o6=0;o7=1;o8=2;o9=3;o10=4;o11=5", x, 12);
        Due.due("history", x.count(14), 2);
        Due.due("undo", x.undo(), 1);
        Due.due("o9", x.ofPage(9, 0), 1);
        Due.due("o0", x.ofPage(0, 0), NONE);
        carries("o12=0;o1=1", x, 0);
        Due.due("also if none is carried out", x.count(14), 2);
        Due.due("undo", x.undo(), 1);
        Due.due("of that", x.ofPage(9, 0), 1);
        Due.due("undo", x.undo(), 0);
        Due.due("of the first", x.ofPage(9, 0), NONE);
        Due.due("a text with a fault", Due.putText(x, "o1=1;") * 0 + x.carryOut(), BAD_TEXT);
        Due.due("is no change", x.count(14), 0);
        Due.due("it stays", x.count(13), 5);
        Due.due("and can be completed", x.put('t' << 8 | '0'), 7);
        Due.due("carryOut", x.carryOut(), 1);
        Due.due("a change", x.count(14), 1);
        Due.due("an empty pad", x.carryOut(), BAD_TEXT);
        Due.due("is no change", x.count(14), 1);
    }

    private static void padOutsideOfTheHistory() {
        VisaPages x = Houses.fresh();
        x.own(0, 0);
        Due.putText(x, "o1=1");
        x.save(0);
        x.undo();
        Due.due("undo leaves the pad", x.count(13), 4);
        x.wipe();
        x.restore(0);
        Due.due("restore leaves the pad", x.count(13), 0);
        Due.putText(x, "o1=1");
        x.carryOut();
        x.undo();
        Due.due("the text does not come back", x.count(13), 0);
        Due.due("put, wipe and fault are no changes", x.put('t') * 0 + x.fault() * 0 + x.wipe() * 0 + x.count(14), 1);
    }
}
