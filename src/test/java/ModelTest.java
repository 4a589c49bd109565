/**
 * Runs of exactly 512 drawn calls, each answered by the class and by PlainModel, which have to agree: a third of them
 * changes and asks up to the last call, the others ask alone in the end.
 */
public final class ModelTest {
    private static final int RUNS = 3000, CALLS = 512, LONGEST_TEXT = 16;
    private static final int[] ODD = {-6, -1, -7, 40, 99, Integer.MIN_VALUE, Integer.MAX_VALUE, 64, 1 << 20};

    // Numbers drawn by a rule of our own: the same ones in each run of the test.
    private long seed;
    private int oddity;
    private VisaPages x;
    private PlainModel m;
    private int made;
    private String told = "";

    public static void main(String[] args) {
        for (int run = 0; run < RUNS; run++) {
            new ModelTest().play(run);
        }
        Due.end("ModelTest");
    }

    private void play(int run) {
        seed = run * 7919L + 17;
        oddity = run % 4 == 0 ? 12 : 150;
        x = new VisaPages();
        m = new PlainModel();
        int style = run % 5;
        int changing = run % 3 == 0 ? CALLS : 60 + draw(350);
        while (made < CALLS) {
            int from = run * 1000 + made;
            if (made < 30 && style != 0) {
                start(from, style);
            } else if (made < changing) {
                any(from, style);
            } else {
                ask(from);
            }
        }
        Due.due("run " + run + ": calls", made, CALLS);
    }

    private int draw(int below) {
        seed = seed * 6364136223846793005L + 1442695040888963407L;
        return (int) ((seed >>> 33) % below);
    }

    private int number(int below) {
        return draw(oddity) == 0 ? ODD[draw(ODD.length)] : draw(oddity) == 0 ? below : draw(below);
    }

    private void agree(int from, String call, long got, long want) {
        told = call;
        made++;
        Due.due("run and call " + from + ": " + call, got, want);
    }

    /** Pages get owners and stamps, so that most runs have chains early. */
    private void start(int from, int style) {
        int pages = style == 4 ? 2 : 5;
        switch (draw(4)) {
            case 0: own(from, draw(pages), draw(6)); break;
            case 1: stampByOwner(from, draw(pages)); break;
            case 2: pass(from, stampNumber(), draw(6), draw(3) == 0 ? draw(7) + 1 : 7); break;
            default: doorOfHolder(from); break;
        }
    }

    private void any(int from, int style) {
        int kind = draw(100);
        if (style == 3 && kind < 25 && CALLS - made >= LONGEST_TEXT) {
            text(from);
            return;
        }
        if (kind < 4) { int s = number(4), v = number(style == 2 && draw(2) == 0 ? 3 : 9); agree(from, "set " + s + " " + v, x.set(s, v), m.set(s, v)); }
        else if (kind < 7) { own(from, number(5), draw(8) == 0 ? -6 : number(6)); }
        else if (kind < 12) { stampByOwner(from, number(5)); }
        else if (kind < 14) { int g = number(6), h = number(6), p = number(12), r = number(8); agree(from, "stamp", x.stamp(g, h, p, r), m.stamp(g, h, p, r)); }
        else if (kind < 21) { pass(from, stampNumber(), number(6), draw(2) == 0 ? 7 : number(8)); }
        else if (kind < 23) { int g = number(6), h = number(6), p = number(5), r = number(8), o = draw(2) == 0 ? -6 : stampNumber(); agree(from, "forge", x.forge(g, h, p, r, o), m.forge(g, h, p, r, o)); }
        else if (kind < 25) { int s = stampNumber(); agree(from, "takeBack " + s, x.takeBack(s), m.takeBack(s)); }
        else if (kind < 33) { doorOfHolder(from); }
        else if (kind < 36) { int g = number(6), d = number(10), s = draw(3) == 0 ? -6 : stampNumber(); agree(from, "door", x.door(g, d, s), m.door(g, d, s)); }
        else if (kind < 55) { come(from); }
        else if (kind < 56) { agree(from, "flush", x.flush(), m.flush()); }
        else if (kind < 60) { int p = number(5), w = number(4); agree(from, "ofPage", x.ofPage(p, w), m.ofPage(p, w)); }
        else if (kind < 65) { int s = stampNumber(), w = number(10); agree(from, "ofStamp", x.ofStamp(s, w), m.ofStamp(s, w)); }
        else if (kind < 67) { int g = number(6), d = number(10); agree(from, "leads", x.leads(g, d), m.leads(g, d)); }
        else if (kind < 70) { int n = number(5), w = number(4); agree(from, "note", x.note(n, w), m.note(n, w)); }
        else if (kind < 76) { int w = number(15); agree(from, "count " + w, x.count(w), m.count(w)); }
        else if (kind < 78) { int r = number(7); agree(from, "ended", x.ended(r), m.ended(r)); }
        else if (kind < 83) { int g = number(6), d = number(10), n = number(2) + 1, w = number(2); agree(from, "walk", x.walk(g, d, n, w), m.walk(g, d, n, w)); }
        else if (kind < 86) { int s = stampNumber(); agree(from, "hides " + s, x.hides(s), m.hides(s)); }
        else if (kind < 88) { int p = number(5); agree(from, "needless", x.needless(p), m.needless(p)); }
        else if (kind < 90) { agree(from, "longest", x.longest(), m.longest()); }
        else if (kind < 93) { agree(from, "undo after " + told, x.undo(), m.undo()); }
        else if (kind < 94) { int s = number(2); agree(from, "save", x.save(s), m.save(s)); }
        else if (kind < 95) { int s = number(2); agree(from, "restore", x.restore(s), m.restore(s)); }
        else if (kind < 96) { agree(from, "carryOut", x.carryOut(), m.carryOut()); }
        else if (CALLS - made >= LONGEST_TEXT) { text(from); }
        else { ask(from); }
    }

    private int stampNumber() {
        int made = m.count(0);
        return draw(oddity) == 0 ? ODD[draw(ODD.length)] : made == 0 ? 0 : draw(12) == 0 ? made : draw(made);
    }

    private void own(int from, int page, int guest) {
        agree(from, "own " + page + " " + guest, x.own(page, guest), m.own(page, guest));
    }

    private void stampByOwner(int from, int page) {
        int giver = Math.max(m.ofPage(page, 0), 0);
        int guest = number(6);
        int rights = draw(2) == 0 ? 7 : number(8);
        agree(from, "stamp", x.stamp(giver, guest, page, rights), m.stamp(giver, guest, page, rights));
    }

    private void pass(int from, int stamp, int guest, int rights) {
        agree(from, "pass " + stamp, x.pass(stamp, guest, rights), m.pass(stamp, guest, rights));
    }

    private void doorOfHolder(int from) {
        int stamp = stampNumber();
        int guest = Math.max(m.ofStamp(stamp, 2), 0);
        int door = draw(4);
        agree(from, "door", x.door(guest, door, stamp), m.door(guest, door, stamp));
    }

    private void come(int from) {
        int guest = number(6);
        int door = draw(3) == 0 ? number(10) : draw(4);
        int need = draw(oddity) == 0 ? number(9) : draw(2) + 1;
        agree(from, "come " + guest + " " + door + " " + need, x.come(guest, door, need), m.come(guest, door, need));
    }

    private void text(int from) {
        int kind = draw(20);
        if (kind == 0) {
            agree(from, "wipe", x.wipe(), m.wipe());
        } else if (kind < 3) {
            agree(from, "fault", x.fault(), m.fault());
        } else if (kind < 8) {
            agree(from, "carryOut", x.carryOut(), m.carryOut());
        } else if (kind == 8) {
            long odd = ((long) draw(1 << 30) << 34 ^ (long) draw(1 << 30) << 8 ^ draw(256)) >>> 8 * draw(8);
            agree(from, "put " + odd, x.put(odd), m.put(odd));
        } else {
            String text = m.count(13) == 0 ? "" : m.fault() == -6 ? ";" : "";
            int orders = draw(4) + 1;
            for (int i = 0; i < orders; i++) {
                text = text + (i == 0 ? "" : ";") + order();
            }
            if (draw(5) == 0) {
                text = spoiled(text);
            }
            for (int at = 0; at < text.length(); at += 8) {
                long signs = Due.packed(text.substring(at, Math.min(text.length(), at + 8)));
                agree(from, "put " + text, x.put(signs), m.put(signs));
            }
            agree(from, "fault of " + text, x.fault(), m.fault());
        }
    }

    private String spoiled(String text) {
        int at = draw(text.length());
        String signs = "osptd?0123456789=->:*.;rw";
        String sign = "" + signs.charAt(draw(signs.length()));
        switch (draw(3)) {
            case 0: return text.substring(0, at) + sign + text.substring(at);
            case 1: return text.substring(0, at) + sign + text.substring(at + 1);
            default: return at == 0 ? sign : text.substring(0, at);
        }
    }

    private String order() {
        String stamp = "" + (draw(8) == 0 ? draw(100) : draw(m.count(0) + 1));
        switch (draw(7)) {
            case 0: return "o" + (draw(8) == 0 ? draw(100) : draw(5)) + "=" + (draw(8) == 0 ? "-" : "" + draw(6));
            case 1: int page = draw(5); return "s" + Math.max(0, m.ofPage(page, 0)) + ">" + draw(6) + ":" + page + "*" + (draw(7) + 1);
            case 2: return "p" + stamp + ">" + draw(6) + "*" + (draw(7) + 1);
            case 3: return "t" + stamp;
            case 4: return "d" + draw(6) + "." + draw(10) + "=" + (draw(4) == 0 ? "-" : stamp);
            default: return "?" + draw(6) + "." + draw(5) + (draw(2) == 0 ? "r" : "w");
        }
    }

    private void ask(int from) {
        int g = number(6), d = draw(2) == 0 ? draw(4) : number(10), n = draw(2) + 1, p = draw(3) == 0 ? number(12) : draw(5);
        int s = stampNumber(), w = number(10);
        switch (draw(12)) {
            case 0: agree(from, "count " + (w + d) % 15, x.count((w + d) % 15), m.count((w + d) % 15)); break;
            case 1: agree(from, "ended " + w, x.ended(w), m.ended(w)); break;
            case 2: agree(from, "ofPage " + p + " " + w % 4, x.ofPage(p, w % 4), m.ofPage(p, w % 4)); break;
            case 3: agree(from, "needless " + p, x.needless(p), m.needless(p)); break;
            case 4: agree(from, "ofStamp " + s + " " + w, x.ofStamp(s, w), m.ofStamp(s, w)); break;
            case 5: agree(from, "hides " + s, x.hides(s), m.hides(s)); break;
            case 6: agree(from, "note " + d + " " + w % 4, x.note(d, w % 4), m.note(d, w % 4)); break;
            case 7: agree(from, "leads " + g + " " + d, x.leads(g, d), m.leads(g, d)); break;
            case 8: agree(from, "walk", x.walk(g, d, n, 0), m.walk(g, d, n, 0)); break;
            case 9: agree(from, "walk's steps", x.walk(g, d, n, 1), m.walk(g, d, n, 1)); break;
            case 10: agree(from, "fault", x.fault(), m.fault()); break;
            default: agree(from, "longest", x.longest(), m.longest()); break;
        }
    }
}
