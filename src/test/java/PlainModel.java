import java.util.ArrayDeque;
import java.util.ArrayList;
import java.util.Arrays;
import java.util.Deque;
import java.util.List;
import java.util.regex.Matcher;
import java.util.regex.Pattern;

/** The document a second time, in other words than the class: lists that are copied, and goodness by recursion. */
final class PlainModel {
    private static final int NO_SUCH = -1, BAD_VALUE = -2, BAD_TEXT = -3, TOO_MANY = -4, NOT_POSSIBLE = -5, NONE = -6;

    private static final class Stamp {
        int page, giver, holder, rights, root;
        boolean forged, taken;

        Stamp(int page, int giver, int holder, int rights, int root, boolean forged) {
            this.page = page;
            this.giver = giver;
            this.holder = holder;
            this.rights = rights;
            this.root = root;
            this.forged = forged;
        }
    }

    private record Note(int guest, int door, int need, int page) {
    }

    private static final class State {
        int[] owner = new int[12];
        List<Stamp> stamps = new ArrayList<>();
        int[][] doors = new int[6][10];
        List<Note> notes = new ArrayList<>();
        int[] settings = {4, 1, 2, 0};
        int[] ended = new int[7];
        int inside, came, helped, steps, wiped, dropped;

        State() {
            Arrays.fill(owner, NONE);
            for (int[] row : doors) {
                Arrays.fill(row, NONE);
            }
        }

        State copy() {
            State c = new State();
            c.owner = owner.clone();
            for (Stamp s : stamps) {
                Stamp t = new Stamp(s.page, s.giver, s.holder, s.rights, s.root, s.forged);
                t.taken = s.taken;
                c.stamps.add(t);
            }
            for (int g = 0; g < 6; g++) {
                c.doors[g] = doors[g].clone();
            }
            c.notes = new ArrayList<>(notes);
            c.settings = settings.clone();
            c.ended = ended.clone();
            c.inside = inside;
            c.came = came;
            c.helped = helped;
            c.steps = steps;
            c.wiped = wiped;
            c.dropped = dropped;
            return c;
        }

        boolean good(int n) {
            Stamp s = stamps.get(n);
            if (s.forged || s.taken) {
                return false;
            }
            if (s.root == NONE) {
                return owner[s.page] == s.giver;
            }
            Stamp r = stamps.get(s.root);
            return good(s.root) && r.page == s.page && r.holder == s.giver && (r.rights & 4) == 4
                && (r.rights & s.rights) == s.rights;
        }

        List<Integer> chain(int n) {
            List<Integer> all = new ArrayList<>();
            for (int at = n; at != NONE; at = stamps.get(at).root) {
                all.add(at);
            }
            return all;
        }

        int seers(int page, int right) {
            int set = owner[page] == NONE ? 0 : 1 << owner[page];
            for (int n = 0; n < stamps.size(); n++) {
                Stamp s = stamps.get(n);
                if (s.page == page && (s.rights & right) != 0 && good(n)) {
                    set |= 1 << s.holder;
                }
            }
            return set;
        }

        int lostReaders(int n) {
            State other = copy();
            other.stamps.get(n).taken = true;
            int page = stamps.get(n).page;
            return seers(page, 1) & ~other.seers(page, 1);
        }

        /** The reason and the steps. */
        int[] walked(int guest, int door, int need) {
            int first = doors[guest][door];
            if (first == NONE) {
                return new int[] {1, 0};
            }
            int looked = 0;
            for (int n : chain(first)) {
                looked++;
                boolean atDoor = n == first;
                Stamp s = stamps.get(n);
                boolean[] applies = new boolean[7];
                applies[2] = atDoor && s.holder != guest;
                applies[3] = s.forged;
                applies[4] = s.taken;
                applies[5] = atDoor && (s.rights & need) != need;
                if (s.root == NONE) {
                    applies[6] = s.giver != owner[s.page];
                } else {
                    Stamp r = stamps.get(s.root);
                    applies[6] = r.page != s.page || r.holder != s.giver || (r.rights & (4 | s.rights)) != (4 | s.rights);
                }
                for (int reason = 2; reason < 7; reason++) {
                    if (applies[reason]) {
                        return new int[] {reason, looked};
                    }
                }
            }
            return new int[] {0, looked};
        }

        int wipeNotes(java.util.function.Predicate<Note> which) {
            int before = notes.size();
            notes.removeIf(which);
            wiped += before - notes.size();
            return before - notes.size();
        }

        void shorten() {
            while (notes.size() > settings[0]) {
                notes.remove(0);
                dropped++;
            }
        }

        int wipeAfter(int page, State before) {
            if (settings[2] == 0) {
                return wipeNotes(n -> true);
            }
            if (settings[2] == 1) {
                return wipeNotes(n -> n.page == page);
            }
            return wipeNotes(n -> before.good(doors[n.guest][n.door]) && !good(doors[n.guest][n.door]));
        }
    }

    private State now = new State();
    private final Deque<State> history = new ArrayDeque<>();
    private final State[] slots = new State[2];
    private String pad = "";
    private boolean inText = false;

    private static boolean in(int value, int count) {
        return 0 <= value && value < count;
    }

    private boolean isStamp(int n) {
        return in(n, now.stamps.size());
    }

    private void record() {
        if (inText) {
            return;
        }
        history.addLast(now.copy());
        if (history.size() > 6) {
            history.removeFirst();
        }
    }

    int set(int setting, int value) {
        int[][] range = {{1, 8}, {0, 1}, {0, 2}, {0, 1}};
        if (!in(setting, 4) || value < range[setting][0] || value > range[setting][1]) {
            return BAD_VALUE;
        }
        record();
        int old = now.settings[setting];
        now.settings[setting] = value;
        now.shorten();
        return old;
    }

    int own(int page, int guest) {
        if (!in(page, 12) || !(guest == NONE || in(guest, 6))) {
            return NO_SUCH;
        }
        record();
        State before = now.copy();
        now.owner[page] = guest;
        return before.owner[page] == guest ? 0 : now.wipeAfter(page, before);
    }

    private int made(Stamp s) {
        record();
        now.stamps.add(s);
        return now.stamps.size() - 1;
    }

    int stamp(int giver, int guest, int page, int rights) {
        if (!in(giver, 6) || !in(guest, 6) || !in(page, 12)) {
            return NO_SUCH;
        }
        if (rights < 1 || rights > 7) {
            return BAD_VALUE;
        }
        if (now.stamps.size() == 40) {
            return TOO_MANY;
        }
        return now.owner[page] == giver ? made(new Stamp(page, giver, guest, rights, NONE, false)) : NOT_POSSIBLE;
    }

    int pass(int root, int guest, int rights) {
        if (!isStamp(root) || !in(guest, 6)) {
            return NO_SUCH;
        }
        if (rights < 1 || rights > 7) {
            return BAD_VALUE;
        }
        if (now.stamps.size() == 40) {
            return TOO_MANY;
        }
        Stamp r = now.stamps.get(root);
        if (!now.good(root) || (r.rights & 4) == 0 || (r.rights | rights) != r.rights) {
            return NOT_POSSIBLE;
        }
        return made(new Stamp(r.page, r.holder, guest, rights, root, false));
    }

    int forge(int giver, int guest, int page, int rights, int root) {
        if (!in(giver, 6) || !in(guest, 6) || !in(page, 12) || !(root == NONE || isStamp(root))) {
            return NO_SUCH;
        }
        if (rights < 1 || rights > 7) {
            return BAD_VALUE;
        }
        return now.stamps.size() == 40 ? TOO_MANY : made(new Stamp(page, giver, guest, rights, root, true));
    }

    int takeBack(int stamp) {
        if (!isStamp(stamp)) {
            return NO_SUCH;
        }
        if (now.stamps.get(stamp).taken) {
            return NOT_POSSIBLE;
        }
        record();
        State before = now.copy();
        now.stamps.get(stamp).taken = true;
        return now.wipeAfter(now.stamps.get(stamp).page, before);
    }

    int door(int guest, int door, int stamp) {
        if (!in(guest, 6) || !in(door, 10) || !(stamp == NONE || isStamp(stamp))) {
            return NO_SUCH;
        }
        record();
        int old = now.doors[guest][door];
        now.doors[guest][door] = stamp;
        return old == stamp ? 0 : now.wipeNotes(n -> n.guest == guest && n.door == door);
    }

    int come(int guest, int door, int need) {
        if (!in(guest, 6) || !in(door, 10)) {
            return NO_SUCH;
        }
        if (need != 1 && need != 2) {
            return BAD_VALUE;
        }
        record();
        now.came++;
        if (now.inside != guest) {
            now.inside = guest;
            if (now.settings[1] == 0) {
                now.wipeNotes(n -> true);
            }
        }
        for (Note n : now.notes) {
            if (n.guest == guest && n.door == door && n.need == need) {
                now.helped++;
                now.steps++;
                now.ended[0]++;
                if (now.settings[3] == 1) {
                    now.notes.remove(n);
                    now.notes.add(n);
                }
                return 0;
            }
        }
        int[] end = now.walked(guest, door, need);
        now.steps += end[1];
        now.ended[end[0]]++;
        if (end[0] == 0) {
            now.notes.add(new Note(guest, door, need, now.stamps.get(now.doors[guest][door]).page));
            now.shorten();
        }
        return end[0];
    }

    int flush() {
        record();
        return now.wipeNotes(n -> true);
    }

    int ofPage(int page, int what) {
        if (!in(page, 12)) {
            return NO_SUCH;
        }
        if (!in(what, 4)) {
            return BAD_VALUE;
        }
        int good = 0;
        for (int n = 0; n < now.stamps.size(); n++) {
            good += now.stamps.get(n).page == page && now.good(n) ? 1 : 0;
        }
        return new int[] {now.owner[page], now.seers(page, 1), now.seers(page, 2), good}[what];
    }

    int ofStamp(int stamp, int what) {
        if (!isStamp(stamp)) {
            return NO_SUCH;
        }
        if (!in(what, 10)) {
            return BAD_VALUE;
        }
        Stamp s = now.stamps.get(stamp);
        int below = -1;
        for (int n = 0; n < now.stamps.size(); n++) {
            below += now.chain(n).contains(stamp) ? 1 : 0;
        }
        return new int[] {s.page, s.giver, s.holder, s.rights, s.root, s.forged ? 1 : 0, s.taken ? 1 : 0,
            now.good(stamp) ? 1 : 0, now.chain(stamp).size(), below}[what];
    }

    int leads(int guest, int door) {
        return in(guest, 6) && in(door, 10) ? now.doors[guest][door] : NO_SUCH;
    }

    int note(int note, int what) {
        if (!in(note, now.notes.size())) {
            return NO_SUCH;
        }
        Note n = now.notes.get(note);
        return in(what, 4) ? new int[] {n.guest, n.door, n.need, n.page}[what] : BAD_VALUE;
    }

    int count(int what) {
        int good = 0;
        for (int n = 0; n < now.stamps.size(); n++) {
            good += now.good(n) ? 1 : 0;
        }
        int[] all = {now.stamps.size(), good, now.notes.size(), now.inside, now.came, now.helped, now.steps, now.wiped,
            now.dropped, now.settings[0], now.settings[1], now.settings[2], now.settings[3], pad.length(), history.size()};
        return in(what, all.length) ? all[what] : BAD_VALUE;
    }

    int ended(int reason) {
        return in(reason, 7) ? now.ended[reason] : BAD_VALUE;
    }

    int walk(int guest, int door, int need, int what) {
        if (!in(guest, 6) || !in(door, 10)) {
            return NO_SUCH;
        }
        if ((need != 1 && need != 2) || !in(what, 2)) {
            return BAD_VALUE;
        }
        return now.walked(guest, door, need)[what];
    }

    int hides(int stamp) {
        return isStamp(stamp) ? now.lostReaders(stamp) : NO_SUCH;
    }

    long needless(int page) {
        if (!in(page, 12)) {
            return NO_SUCH;
        }
        long set = 0;
        for (int n = 0; n < now.stamps.size(); n++) {
            if (now.stamps.get(n).page == page && now.good(n) && now.lostReaders(n) == 0) {
                set += 1L << n;
            }
        }
        return set;
    }

    int longest() {
        int best = NONE;
        for (int n = now.stamps.size() - 1; n >= 0; n--) {
            if (now.good(n) && (best == NONE || now.chain(n).size() >= now.chain(best).size())) {
                best = n;
            }
        }
        return best;
    }

    int put(long characters) {
        String signs = "";
        long rest = characters;
        while ((rest & 255) != 0) {
            if ((rest & 255) < 33 || (rest & 255) > 126) {
                return BAD_VALUE;
            }
            signs = (char) (rest & 255) + signs;
            rest >>>= 8;
        }
        if (rest != 0 || signs.isEmpty()) {
            return BAD_VALUE;
        }
        if (pad.length() + signs.length() > 80) {
            return TOO_MANY;
        }
        pad += signs;
        return pad.length();
    }

    int wipe() {
        int length = pad.length();
        pad = "";
        return length;
    }

    private static final String NUMBER = "(0|[1-9][0-9]?)";
    private static final Pattern[] ORDERS = {
        Pattern.compile("o" + NUMBER + "=([0-5]|-)"),
        Pattern.compile("s([0-5])>([0-5]):" + NUMBER + "\\*([1-7])"),
        Pattern.compile("p" + NUMBER + ">([0-5])\\*([1-7])"),
        Pattern.compile("t" + NUMBER),
        Pattern.compile("d([0-5])\\.([0-9])=(" + NUMBER + "|-)"),
        Pattern.compile("\\?([0-5])\\.([0-9])([rw])"),
    };

    /** Whether more characters could make an order, or whole orders, of this text. */
    private static boolean canGoOn(String text) {
        int last = text.lastIndexOf(';');
        for (String order : last < 0 ? new String[0] : text.substring(0, last).split(";", -1)) {
            if (!isOrder(order)) {
                return false;
            }
        }
        String order = text.substring(last + 1);
        if (order.isEmpty()) {
            return true;
        }
        for (Pattern p : ORDERS) {
            Matcher m = p.matcher(order);
            if (m.matches() || m.hitEnd()) {
                return true;
            }
        }
        return false;
    }

    private static boolean isOrder(String order) {
        for (Pattern p : ORDERS) {
            if (p.matcher(order).matches()) {
                return true;
            }
        }
        return false;
    }

    int fault() {
        for (int i = 0; i < pad.length(); i++) {
            if (!canGoOn(pad.substring(0, i + 1))) {
                return i;
            }
        }
        return isOrder(pad.substring(pad.lastIndexOf(';') + 1)) ? NONE : pad.length();
    }

    private static int number(String text) {
        return text.equals("-") ? NONE : Integer.parseInt(text);
    }

    private int done(String order) {
        for (int kind = 0; kind < ORDERS.length; kind++) {
            Matcher m = ORDERS[kind].matcher(order);
            if (m.matches()) {
                switch (kind) {
                    case 0: return own(number(m.group(1)), number(m.group(2)));
                    case 1: return stamp(number(m.group(1)), number(m.group(2)), number(m.group(3)), number(m.group(4)));
                    case 2: return pass(number(m.group(1)), number(m.group(2)), number(m.group(3)));
                    case 3: return takeBack(number(m.group(1)));
                    case 4: return door(number(m.group(1)), number(m.group(2)), number(m.group(3)));
                    default: return come(number(m.group(1)), number(m.group(2)), m.group(3).equals("r") ? 1 : 2);
                }
            }
        }
        throw new IllegalStateException(order);
    }

    int carryOut() {
        if (fault() != NONE) {
            return BAD_TEXT;
        }
        record();
        inText = true;
        int carried = 0;
        for (String order : pad.split(";")) {
            if (done(order) < 0) {
                break;
            }
            carried++;
        }
        inText = false;
        pad = "";
        return carried;
    }

    int undo() {
        if (history.isEmpty()) {
            return NOT_POSSIBLE;
        }
        now = history.removeLast();
        return history.size();
    }

    int save(int slot) {
        if (!in(slot, 2)) {
            return BAD_VALUE;
        }
        slots[slot] = now.copy();
        return now.stamps.size();
    }

    int restore(int slot) {
        if (!in(slot, 2)) {
            return BAD_VALUE;
        }
        if (slots[slot] == null) {
            return NOT_POSSIBLE;
        }
        record();
        now = slots[slot].copy();
        return now.stamps.size();
    }
}
