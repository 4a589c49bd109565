/** Promises 21 to 24: texts. */
public final class TextsTest {
    private static final int BAD_VALUE = VisaPages.BAD_VALUE, BAD_TEXT = VisaPages.BAD_TEXT;
    private static final int TOO_MANY = VisaPages.TOO_MANY, NONE = VisaPages.NONE;

    private static void due(String call, long got, long want) {
        Due.due(call, got, want);
    }

    public static void main(String[] args) {
        promise21Put();
        promise22Wipe();
        promise23FaultNone();
        promise23Fault();
        promise24CarryOut();
        promise24Stops();
        promise24EachOrder();
        promise24History();
        Due.end("TextsTest");
    }

    private static void promise21Put() {
        VisaPages x = new VisaPages();
        due("21: one", x.put('t'), 1);
        due("21: eight", x.put(Due.packed("1;t2;t3;")), 9);
        due("21: the last bits are the last character", x.put(Due.packed("t")), 10);
        due("21: lowest and highest code", x.put(33L << 8 | 126L), 12);
        due("21: the length", x.count(13), 12);
        due("21: no character", x.put(0), BAD_VALUE);
        due("21: 32", x.put(32), BAD_VALUE);
        due("21: 127", x.put(127), BAD_VALUE);
        due("21: 1", x.put(1), BAD_VALUE);
        due("21: 255", x.put(255), BAD_VALUE);
        due("21: -1", x.put(-1L), BAD_VALUE);
        due("21: a bad one ahead", x.put(31L << 8 | 't'), BAD_VALUE);
        due("21: a bad one behind", x.put((long) 't' << 8 | 10), BAD_VALUE);
        due("21: a bad one as the eighth", x.put(128L << 56 | Due.packed("1234567")), BAD_VALUE);
        due("21: no last one", x.put((long) 't' << 8), BAD_VALUE);
        due("21: a gap", x.put((long) 't' << 16 | 't'), BAD_VALUE);
        due("21: a gap, far above", x.put((long) 't' << 56 | 't'), BAD_VALUE);
        due("21: a bit above", x.put(1L << 63 | 't'), BAD_VALUE);
        due("21: the smallest", x.put(Long.MIN_VALUE), BAD_VALUE);
        due("21: the largest", x.put(Long.MAX_VALUE), BAD_VALUE);
        due("21: the length stays", x.count(13), 12);
        due("21: it is no change", x.count(14), 0);
        for (int length = 20; length <= 76; length += 8) {
            due("21: length", x.put(Due.packed("12345678")), length);
        }
        due("21: BAD_VALUE before TOO_MANY", x.put(1), BAD_VALUE);
        due("21: 81 are too many", x.put(Due.packed("12345")), TOO_MANY);
        due("21: nothing is put then", x.count(13), 76);
        due("21: 80 are not", x.put(Due.packed("1234")), 80);
        due("21: one more", x.put('1'), TOO_MANY);
        due("21: it is kept in its order", faultOf("o1=2;t12;?1.2w;d3.4=5x"), 21);
    }

    private static void promise22Wipe() {
        VisaPages x = new VisaPages();
        due("22: empty", x.wipe(), 0);
        Due.putText(x, "hello,you");
        due("22: nine", x.wipe(), 9);
        due("22: length", x.count(13), 0);
        due("22: again", x.wipe(), 0);
        due("22: it is no change", x.count(14), 0);
        Due.putText(x, "t1");
        due("22: what was there is gone", x.fault(), NONE);
        for (int i = 0; i < 9; i++) {
            Due.putText(x, "12345678");
        }
        due("22: all of it", x.wipe(), 74);
    }

    private static int faultOf(String text) {
        VisaPages x = new VisaPages();
        Due.putText(x, text);
        return x.fault();
    }

    private static void promise23FaultNone() {
        String[] texts = {
            "o0=0", "o11=-", "o99=5", "s0>5:99*7", "s5>0:0*1", "p0>0*1", "p99>5*7", "t0", "t99", "t10",
            "d0.0=0", "d5.9=99", "d5.9=-", "?0.0r", "?5.9w", "o1=2;s0>1:2*3;p4>5*6;t7;d1.8=9;?3.4r",
            "t0;t0;t0;t0;t0;t0;t0;t0;t0;t0;t0;t0;t0;t0;t0;t0;t0;t0;t0;t0;t0;t0;t0;t0;t0;t0;t99",
        };
        for (String text : texts) {
            due("23: fault of " + text, faultOf(text), NONE);
        }
    }

    private static void promise23Fault() {
        due("23: empty", faultOf(""), 0);
        Object[][] faults = {
            {"x", 0}, {";", 0}, {"O", 0}, {"1", 0}, {"o", 1}, {"o-", 1}, {"o=", 1}, {"o1", 2}, {"o12", 3},
            {"o01=1", 2}, {"o00", 2}, {"o123", 3}, {"o100=1", 3}, {"o1-", 2}, {"o1=", 3}, {"o1=6", 3}, {"o1=r", 3},
            {"o1=12", 4}, {"o1=-1", 4}, {"o1=--", 4}, {"o1=1;", 5}, {"o1=1;;", 5}, {"o1=1,", 4},
            {"s", 1}, {"s6", 1}, {"s-", 1}, {"s1", 2}, {"s12", 2}, {"s1>", 3}, {"s1>6", 3}, {"s1>-", 3}, {"s1>2", 4},
            {"s1>2*", 4}, {"s1>2:", 5}, {"s1>2:*", 5}, {"s1>2:00", 6}, {"s1>2:34", 7}, {"s1>2:345", 7},
            {"s1>2:3*", 7}, {"s1>2:3*0", 7}, {"s1>2:3*8", 7}, {"s1>2:3*77", 8}, {"s1>2:3*-", 7},
            {"p", 1}, {"p>", 1}, {"p02", 2}, {"p1>6", 3}, {"p1>", 3}, {"p1>2:", 4}, {"p1>2*0", 5}, {"p1>2*8", 5},
            {"p1>2*", 5}, {"p1>2*3x", 6},
            {"t", 1}, {"t-", 1}, {"t05", 2}, {"t555", 3}, {"t5;", 3}, {"t5t", 2}, {"tt", 1},
            {"d", 1}, {"d6", 1}, {"d1", 2}, {"d1=", 2}, {"d1.", 3}, {"d1.x", 3}, {"d1.10", 4}, {"d1.1.", 4},
            {"d1.1=", 5}, {"d1.1=x", 5}, {"d1.1=05", 6}, {"d1.1=555", 7}, {"d1.1=-5", 6}, {"d1.1=--", 6},
            {"?", 1}, {"?6", 1}, {"?5", 2}, {"?5,", 2}, {"?5.", 3}, {"?5.r", 3}, {"?5.5", 4}, {"?5.5R", 4}, {"?5.55", 4},
            {"?5.5rw", 5}, {"?5.5g", 4}, {"t1;x", 3}, {"t1;o12=7;t1", 7}, {"t1;?1.1r;", 9},
        };
        for (Object[] row : faults) {
            due("23: fault of " + row[0], faultOf((String) row[0]), (Integer) row[1]);
        }
        String full = "t0;t0;t0;t0;t0;t0;t0;t0;t0;t0;t0;t0;t0;t0;t0;t0;t0;t0;t0;t0;t0;t0;t0;t0;t0;t0;t9";
        due("23: 80 characters, too early an end", faultOf(full.substring(0, 78) + "o1"), 80);
        due("23: the last one of 80", faultOf(full.substring(0, 78) + "t:"), 79);
        VisaPages x = new VisaPages();
        x.put('o');
        due("23: fault", x.fault(), 1);
        due("23: fault again", x.fault(), 1);
        x.put(Due.packed("1=1"));
        due("23: mended", x.fault(), NONE);
        due("23: it changes nothing", x.count(14), 0);
    }

    private static void promise24CarryOut() {
        VisaPages x = new VisaPages();
        due("24: empty", x.carryOut(), BAD_TEXT);
        due("24: no change", x.count(14), 0);
        Due.putText(x, "o3=0;s0>1:3*7;p0>2*5;d1.4=0;?1.4w;d2.9=1;?2.9r;");
        due("24: a fault", x.carryOut(), BAD_TEXT);
        due("24: the text stays", x.count(13), 47);
        due("24: nothing is done", x.ofPage(3, 0), NONE);
        due("24: no change", x.count(14), 0);
        Due.putText(x, "t0");
        due("24: all", x.carryOut(), 8);
        due("24: the pad is empty", x.count(13), 0);
        due("24: one change", x.count(14), 1);
        due("24: owner", x.ofPage(3, 0), 0);
        due("24: stamps", x.count(0), 2);
        due("24: taken back", x.ofStamp(0, 6), 1);
        due("24: seen", x.ended(0), 2);
        due("24: wiped", x.count(7), 2);
        due("24: doors", x.leads(2, 9), 1);
        due("24: undo", x.undo(), 0);
        due("24: of all", x.count(0), 0);
        due("24: the pad stays empty", x.count(13), 0);
    }

    private static void promise24Stops() {
        VisaPages x = new VisaPages();
        Due.putText(x, "o12=0;o1=1");
        due("24: none", x.carryOut(), 0);
        due("24: it stops", x.ofPage(1, 0), NONE);
        due("24: the pad is empty", x.count(13), 0);
        due("24: a change all the same", x.count(14), 1);
        Due.putText(x, "o1=1;s1>2:1*1;s2>1:1*1;s1>3:1*1");
        due("24: up to an error", x.carryOut(), 2);
        due("24: what came before stands", x.count(0), 1);
        Due.putText(x, "?2.2r;t0;t0;t0");
        due("24: a reason is no error", x.carryOut(), 2);
        due("24: shut", x.ended(1), 1);
    }

    private static void promise24EachOrder() {
        VisaPages x = new VisaPages();
        Due.putText(x, "o10=4;s4>3:10*6;p0>2*4;d3.7=0;?3.7w;?3.7r;d2.0=1;o10=-;d2.0=-");
        due("24: each", x.carryOut(), 9);
        int[] first = {10, 4, 3, 6, NONE};
        int[] second = {10, 3, 2, 4, 0};
        for (int what = 0; what < 5; what++) {
            due("24: s", x.ofStamp(0, what), first[what]);
            due("24: p", x.ofStamp(1, what), second[what]);
        }
        due("24: o with nobody", x.ofPage(10, 0), NONE);
        due("24: ?w", x.ended(0), 1);
        due("24: ?r", x.ended(5), 1);
        due("24: d", x.leads(3, 7), 0);
        due("24: d shut", x.leads(2, 0), NONE);
        Due.putText(x, "o0=5;d0.0=1;t1");
        due("24: more", x.carryOut(), 3);
        due("24: o", x.ofPage(0, 0), 5);
        due("24: d", x.leads(0, 0), 1);
        due("24: t", x.ofStamp(1, 6), 1);
        String many = "o0=0;s0>1:0*7";
        Due.putText(x, many);
        x.carryOut();
        for (int stamp = 3; stamp < 40; stamp++) {
            x.stamp(0, 1, 0, 7);
        }
        Due.putText(x, "d1.1=39;?1.1r;t39;d1.1=40;t38");
        due("24: numbers of two digits", x.carryOut(), 3);
        due("24: t39", x.ofStamp(39, 6), 1);
        Due.putText(x, "s0>1:0*7");
        due("24: TOO_MANY ends it", x.carryOut(), 0);
        Due.putText(x, "t2;t2");
        due("24: NOT_POSSIBLE ends it", x.carryOut(), 1);
    }

    private static void promise24History() {
        VisaPages x = new VisaPages();
        x.own(0, 0);
        Due.putText(x, "o0=1;o0=2;o0=3;o0=4;o0=5;o1=0;o1=1;o1=2");
        due("24: orders", x.carryOut(), 8);
        due("24: record one change", x.count(14), 2);
        due("24: undo", x.undo(), 1);
        due("24: undoes all", x.ofPage(0, 0), 0);
        due("24: of them", x.ofPage(1, 0), NONE);
    }
}
