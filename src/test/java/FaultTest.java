import java.util.regex.Matcher;
import java.util.regex.Pattern;

/**
 * Faults, told by the grammar as a pattern: a text can go on as long as the pattern matches it or runs into its end. At
 * each place of sample texts every character is tried, and each text is cut off at each place.
 */
public final class FaultTest {
    private static final int NONE = VisaPages.NONE, BAD_TEXT = VisaPages.BAD_TEXT;
    private static final String NUMBER = "(0|[1-9][0-9]?)";
    private static final String ORDER = "(o" + NUMBER + "=([0-5]|-)"
        + "|s[0-5]>[0-5]:" + NUMBER + "\\*[1-7]"
        + "|p" + NUMBER + ">[0-5]\\*[1-7]"
        + "|t" + NUMBER
        + "|d[0-5]\\.[0-9]=(" + NUMBER + "|-)"
        + "|\\?[0-5]\\.[0-9][rw])";
    private static final Pattern TEXT = Pattern.compile(ORDER + "(;" + ORDER + ")*");
    private static final String[] SAMPLES = {
        "", "o0=0", "o9=5", "o10=-", "o99=3", "s0>5:0*1", "s5>0:12*7", "p0>0*1", "p99>5*7", "t0", "t9", "t10", "t99", "d0.0=-",
        "d5.9=0", "d3.4=39", "?0.0r", "?5.9w", "t1;t2", "o1=-;o2=2", "d1.1=-;d1.1=1;d1.1=10;?1.1r", "?1.1w;s1>2:3*4;p5>4*3",
        "t10;t1;t0;o11=0;t7",
    };

    public static void main(String[] args) {
        everyCharacterAtEachPlace();
        cutOff();
        numbers();
        orderByOrder();
        fullPad();
        afterAFault();
        growing();
        Due.end("FaultTest");
    }

    private static int want(String text) {
        for (int length = 1; length <= text.length(); length++) {
            Matcher matcher = TEXT.matcher(text.substring(0, length));
            if (!matcher.matches() && !matcher.hitEnd()) {
                return length - 1;
            }
        }
        return TEXT.matcher(text).matches() ? NONE : text.length();
    }

    private static VisaPages with(String text) {
        VisaPages x = new VisaPages();
        Due.putText(x, text);
        return x;
    }

    private static void check(String text) {
        if (text.length() <= 80) {
            VisaPages x = with(text);
            int fault = want(text);
            Due.due("fault of " + text, x.fault(), fault);
            if (fault != NONE) {
                Due.due("carryOut of " + text, x.carryOut(), BAD_TEXT);
                Due.due("it stays: " + text, x.count(13), text.length());
            }
        }
    }

    private static void everyCharacterAtEachPlace() {
        for (String sample : SAMPLES) {
            for (int at = 0; at <= sample.length(); at++) {
                for (char sign = 33; sign <= 126; sign++) {
                    check(sample.substring(0, at) + sign);
                    check(sample.substring(0, at) + sign + sample.substring(at));
                    check(sample.substring(0, at) + sign + sample.substring(Math.min(at + 1, sample.length())));
                }
            }
        }
    }

    private static void cutOff() {
        for (String sample : SAMPLES) {
            for (int length = 0; length <= sample.length(); length++) {
                check(sample.substring(0, length));
                check(sample.substring(length));
                check(sample + ";" + sample.substring(0, length));
            }
        }
    }

    /** Pages and stamps from 0 to 99 without leading zeros; the digit that makes more is the fault. */
    private static void numbers() {
        for (int number = 0; number <= 120; number++) {
            due("t" + number, number <= 99 ? NONE : 3);
            due("o" + number + "=1", number <= 99 ? NONE : 3);
            due("p" + number + ">1*1", number <= 99 ? NONE : 3);
            due("d1.1=" + number, number <= 99 ? NONE : 7);
            due("s1>1:" + number + "*1", number <= 99 ? NONE : 7);
        }
        for (int digit = 0; digit <= 9; digit++) {
            due("t0" + digit, 2);
            due("o0" + digit + "=1", 2);
            due("p0" + digit + ">1*1", 2);
            due("d1.1=0" + digit, 6);
            due("s1>1:0" + digit + "*1", 6);
            due("s" + digit + ">1:1*1", digit <= 5 ? NONE : 1);
            due("s1>" + digit + ":1*1", digit <= 5 ? NONE : 3);
            due("s1>1:1*" + digit, digit >= 1 && digit <= 7 ? NONE : 7);
            due("p1>" + digit + "*1", digit <= 5 ? NONE : 3);
            due("p1>1*" + digit, digit >= 1 && digit <= 7 ? NONE : 5);
            due("o1=" + digit, digit <= 5 ? NONE : 3);
            due("d" + digit + ".1=1", digit <= 5 ? NONE : 1);
            due("d1." + digit + "=1", NONE);
            due("?" + digit + ".1r", digit <= 5 ? NONE : 1);
            due("?1." + digit + "r", NONE);
        }
        due("o1=10", 4);
        due("s10>1:1*1", 2);
        due("s1>10:1*1", 4);
        due("s1>1:1*10", 8);
        due("d10.1=1", 2);
        due("d1.10=1", 4);
        due("?1.10r", 4);
        due("o-=1", 1);
        due("t-", 1);
        due("p->1*1", 1);
        due("s1>-:1*1", 3);
        due("d1.1=-", NONE);
        due("o1=-", NONE);
        due("d1.1=-1", 6);
        due("o1=-1", 4);
        due("t-1", 1);
        due("t+1", 1);
    }

    private static void due(String text, int fault) {
        Due.due("fault of " + text, with(text).fault(), fault);
        Due.due("the pattern agrees about " + text, want(text), fault);
    }

    private static void orderByOrder() {
        due("", 0);
        due(";", 0);
        due("t1;", 3);
        due(";t1", 0);
        due("t1;;t1", 3);
        due("t1t1", 2);
        due("t1,t1", 2);
        due("T1", 0);
        due("?1.1R", 4);
        due("?1.1rw", 5);
        due("x", 0);
        due("t", 1);
    }

    private static void fullPad() {
        String orders = "t0;".repeat(26);
        due(orders + "t1", NONE);
        due("t0;".repeat(25) + "t11" + ";o", 80);
        due(orders + "t;", 79);
        due(orders + ";1", 78);
        due("s1>2:3*4;".repeat(8) + "s1>2:3*4", NONE);
        due("s1>2:3*4;".repeat(8) + "s1>2:3*8", 79);
        due("s1>2:3*4;".repeat(8) + "s1>2:34*", 80);
        due("t1;".repeat(25) + "t10;t", 80);
        due("t1;".repeat(26), 78);
        due("t".repeat(80), 1);
        Due.due("26 orders and one", with(orders + "t1").count(13), 80);
    }

    /** What stands behind the first fault does not matter. */
    private static void afterAFault() {
        due("t1;xt;x", 3);
        due("o1=6;o1=7", 3);
        due("tt1;t1", 1);
    }

    private static void growing() {
        VisaPages x = new VisaPages();
        String text = "o12=5;s0>1:23*4;p9>8";
        int[] faults = {1, 2, 3, 4, NONE, 6, 7, 8, 9, 10, 11, 12, 13, 14, NONE, 16, 17, 18, 19, 19};
        for (int at = 0; at < text.length(); at++) {
            Due.due("put", x.put(text.charAt(at)), at + 1);
            Due.due("fault of " + text.substring(0, at + 1), x.fault(), faults[at]);
        }
        Due.due("wipe", x.wipe(), 20);
        Due.due("fault of nothing", x.fault(), 0);
        x.put('t');
        x.put('0');
        Due.due("what was wiped does not count", x.fault(), NONE);
    }
}
