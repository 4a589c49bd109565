import java.util.Arrays;

/** A house whose guests see one another's pages by stamps; ../shared/DOC.md says what each call answers. */
public final class VisaPages {
    public static final int NO_SUCH = -1, BAD_VALUE = -2, BAD_TEXT = -3, TOO_MANY = -4, NOT_POSSIBLE = -5, NONE = -6;
    public static final int BOARD = 0, NAMES = 1, WIPE = 2, KEEP = 3;
    public static final int READ = 1, WRITE = 2, GIVE = 4;

    private static final int GUESTS = 6, PAGES = 12, DOORS = 10, STAMPS = 40, NOTES = 8;
    private static final int ALL_RIGHTS = READ | WRITE | GIVE;

    private static final int SETTINGS = 4;
    private static final int[] LEAST = {1, 0, 0, 0};
    private static final int[] MOST = {8, 1, 2, 1};
    private static final int[] FIRST_SETTINGS = {4, 1, 2, 0};
    private static final int WIPE_ALL = 0, WIPE_PAGE = 1;

    private static final int SEES = 0, SHUT = 1, NOT_HOLDER = 2, FORGED = 3, TAKEN = 4, NO_NEED = 5, NOT_BACKED = 6;
    private static final int REASONS = 7;

    private static final int SLOTS = 2, HISTORY = 6;
    private static final int PAD_ROOM = 80, SIGNS_AT_ONCE = 8, FIRST_SIGN = 33, LAST_SIGN = 126;

    private final House house = new House();
    private final Walk walker = new Walk();
    private final Pad pad = new Pad();
    private final History history = new History();
    private final House[] slots = new House[SLOTS];

    public VisaPages() {
    }

    // ---- changes

    public int set(int setting, int value) {
        history.remember(house);
        return history.keepUnlessError(house.changeSetting(setting, value));
    }

    public int own(int page, int guest) {
        history.remember(house);
        return history.keepUnlessError(house.changeOwner(page, guest));
    }

    public int stamp(int giver, int guest, int page, int rights) {
        history.remember(house);
        return history.keepUnlessError(house.giveStamp(giver, guest, page, rights));
    }

    public int pass(int stamp, int guest, int rights) {
        history.remember(house);
        return history.keepUnlessError(house.passOn(stamp, guest, rights));
    }

    public int forge(int giver, int guest, int page, int rights, int root) {
        history.remember(house);
        return history.keepUnlessError(house.forgeStamp(giver, guest, page, rights, root));
    }

    public int takeBack(int stamp) {
        history.remember(house);
        return history.keepUnlessError(house.revoke(stamp));
    }

    public int door(int guest, int door, int stamp) {
        history.remember(house);
        return history.keepUnlessError(house.leadDoor(guest, door, stamp));
    }

    public int come(int guest, int door, int need) {
        history.remember(house);
        return history.keepUnlessError(house.visit(guest, door, need, walker));
    }

    public int flush() {
        history.remember(house);
        return history.keepUnlessError(house.board.wipeThese(house.board.allNotes()));
    }

    // ---- what there is

    public int ofPage(int page, int what) {
        if (!isPage(page)) {
            return NO_SUCH;
        }
        switch (what) {
            case 0: return house.owners[page];
            case 1: return house.guestsWith(page, READ, house.goodStamps(NONE));
            case 2: return house.guestsWith(page, WRITE, house.goodStamps(NONE));
            case 3: return Long.bitCount(house.goodStamps(NONE) & house.stamps.ofOnePage(page));
            default: return BAD_VALUE;
        }
    }

    public int ofStamp(int stamp, int what) {
        Stamps stamps = house.stamps;
        if (!stamps.has(stamp)) {
            return NO_SUCH;
        }
        switch (what) {
            case 0: return stamps.page[stamp];
            case 1: return stamps.giver[stamp];
            case 2: return stamps.holder[stamp];
            case 3: return stamps.rights[stamp];
            case 4: return stamps.root[stamp];
            case 5: return isIn(stamps.forged, stamp) ? 1 : 0;
            case 6: return isIn(stamps.taken, stamp) ? 1 : 0;
            case 7: return isIn(house.goodStamps(NONE), stamp) ? 1 : 0;
            case 8: return stamps.chainLength(stamp);
            case 9: return stamps.countBelow(stamp);
            default: return BAD_VALUE;
        }
    }

    public int leads(int guest, int door) {
        return isDoor(guest, door) ? house.ledBy(guest, door) : NO_SUCH;
    }

    public int note(int note, int what) {
        Board board = house.board;
        if (!board.has(note)) {
            return NO_SUCH;
        }
        switch (what) {
            case 0: return board.guest[note];
            case 1: return board.door[note];
            case 2: return board.need[note];
            case 3: return board.page[note];
            default: return BAD_VALUE;
        }
    }

    public int count(int what) {
        switch (what) {
            case 0: return house.stamps.made;
            case 1: return Long.bitCount(house.goodStamps(NONE));
            case 2: return house.board.size;
            case 3: return house.inside;
            case 4: return house.visits;
            case 5: return house.helped;
            case 6: return house.steps;
            case 7: return house.board.wiped;
            case 8: return house.board.dropped;
            case 9: return house.settings[BOARD];
            case 10: return house.settings[NAMES];
            case 11: return house.settings[WIPE];
            case 12: return house.settings[KEEP];
            case 13: return pad.length;
            case 14: return history.kept;
            default: return BAD_VALUE;
        }
    }

    public int ended(int reason) {
        return reason >= 0 && reason < REASONS ? house.endings[reason] : BAD_VALUE;
    }

    // ---- what if; nothing changes

    public int walk(int guest, int door, int need, int what) {
        if (!isDoor(guest, door)) {
            return NO_SUCH;
        }
        if (!isNeed(need) || (what != 0 && what != 1)) {
            return BAD_VALUE;
        }
        walker.go(house, guest, door, need);
        return what == 0 ? walker.reason : walker.steps;
    }

    public int hides(int stamp) {
        return house.stamps.has(stamp) ? house.hiddenWithout(stamp, house.goodStamps(NONE)) : NO_SUCH;
    }

    public long needless(int page) {
        return isPage(page) ? house.needlessFor(page) : NO_SUCH;
    }

    public int longest() {
        return house.longestChain();
    }

    // ---- texts

    public int put(long characters) {
        return pad.append(characters);
    }

    public int wipe() {
        return pad.clear();
    }

    public int fault() {
        return pad.findFault();
    }

    public int carryOut() {
        if (pad.findFault() != NONE) {
            return BAD_TEXT;
        }
        history.remember(house);
        int carried = 0;
        pad.startReading();
        while (carried < PAD_ROOM && pad.readOrder() && house.follow(pad, walker) >= 0) {
            carried++;
            pad.skipSign();
        }
        pad.clear();
        return history.keepUnlessError(carried);
    }

    // ---- undo, saving

    public int undo() {
        return history.goBack(house);
    }

    public int save(int slot) {
        if (!isSlot(slot)) {
            return BAD_VALUE;
        }
        if (slots[slot] == null) {
            slots[slot] = new House();
        }
        slots[slot].copyFrom(house);
        return house.stamps.made;
    }

    public int restore(int slot) {
        if (!isSlot(slot)) {
            return BAD_VALUE;
        }
        House saved = slots[slot];
        if (saved == null) {
            return NOT_POSSIBLE;
        }
        history.remember(house);
        house.copyFrom(saved);
        return history.keepUnlessError(house.stamps.made);
    }

    // ---- what the arguments may be

    private static boolean isGuest(int guest) {
        return guest >= 0 && guest < GUESTS;
    }

    private static boolean isPage(int page) {
        return page >= 0 && page < PAGES;
    }

    private static boolean isDoor(int guest, int door) {
        return guest >= 0 && guest < GUESTS && door >= 0 && door < DOORS;
    }

    private static boolean isNeed(int need) {
        return need == READ || need == WRITE;
    }

    private static boolean areRights(int rights) {
        return rights >= 1 && rights <= ALL_RIGHTS;
    }

    private static boolean isSlot(int slot) {
        return slot >= 0 && slot < SLOTS;
    }

    private static boolean isIn(long set, int number) {
        return (set >>> number & 1L) != 0L;
    }

    /** All that undo and saving bring back. */
    private static final class House {
        final int[] owners = new int[PAGES];
        final int[] doors = new int[GUESTS * DOORS];
        final int[] settings = FIRST_SETTINGS.clone();
        final int[] endings = new int[REASONS];
        final Stamps stamps = new Stamps();
        final Board board = new Board();
        int inside;
        int visits;
        int helped;
        int steps;

        House() {
            Arrays.fill(owners, NONE);
            Arrays.fill(doors, NONE);
        }

        void copyFrom(House other) {
            System.arraycopy(other.owners, 0, owners, 0, PAGES);
            System.arraycopy(other.doors, 0, doors, 0, GUESTS * DOORS);
            System.arraycopy(other.settings, 0, settings, 0, SETTINGS);
            System.arraycopy(other.endings, 0, endings, 0, REASONS);
            stamps.copyFrom(other.stamps);
            board.copyFrom(other.board);
            inside = other.inside;
            visits = other.visits;
            helped = other.helped;
            steps = other.steps;
        }

        int changeSetting(int setting, int value) {
            if (setting < 0 || setting >= SETTINGS || value < LEAST[setting] || value > MOST[setting]) {
                return BAD_VALUE;
            }
            int before = settings[setting];
            settings[setting] = value;
            board.dropDownTo(settings[BOARD]);
            return before;
        }

        int changeOwner(int page, int guest) {
            if (!isPage(page) || (guest != NONE && !isGuest(guest))) {
                return NO_SUCH;
            }
            if (owners[page] == guest) {
                return 0;
            }
            long goodBefore = goodStamps(NONE);
            owners[page] = guest;
            return wipeStale(page, goodBefore);
        }

        int giveStamp(int giver, int guest, int page, int rights) {
            if (!isGuest(giver) || !isGuest(guest) || !isPage(page)) {
                return NO_SUCH;
            }
            if (!areRights(rights)) {
                return BAD_VALUE;
            }
            if (stamps.areFull()) {
                return TOO_MANY;
            }
            if (owners[page] != giver) {
                return NOT_POSSIBLE;
            }
            return stamps.add(giver, guest, page, rights, NONE, false);
        }

        int passOn(int stamp, int guest, int rights) {
            if (!stamps.has(stamp) || !isGuest(guest)) {
                return NO_SUCH;
            }
            if (!areRights(rights)) {
                return BAD_VALUE;
            }
            if (stamps.areFull()) {
                return TOO_MANY;
            }
            int needed = rights | GIVE;
            if (!isIn(goodStamps(NONE), stamp) || (needed & ~stamps.rights[stamp]) != 0) {
                return NOT_POSSIBLE;
            }
            return stamps.add(stamps.holder[stamp], guest, stamps.page[stamp], rights, stamp, false);
        }

        int forgeStamp(int giver, int guest, int page, int rights, int root) {
            if (!isGuest(giver) || !isGuest(guest) || !isPage(page) || (root != NONE && !stamps.has(root))) {
                return NO_SUCH;
            }
            if (!areRights(rights)) {
                return BAD_VALUE;
            }
            if (stamps.areFull()) {
                return TOO_MANY;
            }
            return stamps.add(giver, guest, page, rights, root, true);
        }

        int revoke(int stamp) {
            if (!stamps.has(stamp)) {
                return NO_SUCH;
            }
            if (isIn(stamps.taken, stamp)) {
                return NOT_POSSIBLE;
            }
            long goodBefore = goodStamps(NONE);
            stamps.taken |= 1L << stamp;
            return wipeStale(stamps.page[stamp], goodBefore);
        }

        int leadDoor(int guest, int door, int stamp) {
            if (!isDoor(guest, door) || (stamp != NONE && !stamps.has(stamp))) {
                return NO_SUCH;
            }
            int place = guest * DOORS + door;
            if (doors[place] == stamp) {
                return 0;
            }
            doors[place] = stamp;
            return board.wipeThese(board.notesOfDoor(guest, door));
        }

        int visit(int guest, int door, int need, Walk walk) {
            if (!isDoor(guest, door)) {
                return NO_SUCH;
            }
            if (!isNeed(need)) {
                return BAD_VALUE;
            }
            enter(guest);
            visits++;
            int note = board.find(guest, door, need);
            if (board.has(note)) {
                useNote(note);
                return SEES;
            }
            walk.go(this, guest, door, need);
            steps += walk.steps;
            endings[walk.reason]++;
            if (walk.reason == SEES) {
                addNote(guest, door, need);
            }
            return walk.reason;
        }

        private void enter(int guest) {
            if (inside != guest && settings[NAMES] == 0) {
                board.wipeThese(board.allNotes());
            }
            inside = guest;
        }

        private void useNote(int note) {
            helped++;
            steps++;
            endings[SEES]++;
            if (settings[KEEP] == 1) {
                board.moveToEnd(note);
            }
        }

        private void addNote(int guest, int door, int need) {
            int stamp = ledBy(guest, door);
            if (stamps.has(stamp)) {
                // Room is made first, so that the board never holds more than it has room for.
                board.dropDownTo(settings[BOARD] - 1);
                board.add(guest, door, need, stamps.page[stamp]);
            }
        }

        /** Does the order that the pad has read last. */
        int follow(Pad order, Walk walk) {
            int[] v = order.values;
            switch (order.kind) {
                case 'o': return changeOwner(v[0], v[1]);
                case 's': return giveStamp(v[0], v[1], v[2], v[3]);
                case 'p': return passOn(v[0], v[1], v[2]);
                case 't': return revoke(v[0]);
                case 'd': return leadDoor(v[0], v[1], v[2]);
                case '?': return visit(v[0], v[1], v[2], walk);
                default: return BAD_TEXT;
            }
        }

        int ledBy(int guest, int door) {
            return isDoor(guest, door) ? doors[guest * DOORS + door] : NONE;
        }

        /** The good stamps as a set, if one stamp (or NONE) was taken back. */
        long goodStamps(int without) {
            long good = 0L;
            // A root has a lower number than its stamp, so it is settled before the stamp is asked.
            for (int stamp = 0; stamp < stamps.made; stamp++) {
                int root = stamps.root[stamp];
                boolean valid = stamp != without && !isIn(stamps.forged | stamps.taken, stamp);
                if (valid && (root == NONE || isIn(good, root)) && isBacked(stamp)) {
                    good |= 1L << stamp;
                }
            }
            return good;
        }

        /** Whether the root (not its own state), or the owner if there is none, allows the stamp. */
        boolean isBacked(int stamp) {
            int root = stamps.root[stamp];
            int page = stamps.page[stamp];
            int giver = stamps.giver[stamp];
            if (!stamps.has(root)) {
                return isPage(page) && owners[page] == giver;
            }
            int needed = stamps.rights[stamp] | GIVE;
            return stamps.page[root] == page && stamps.holder[root] == giver && (needed & ~stamps.rights[root]) == 0;
        }

        /** The owner of a page, and the guests who hold one of the good stamps for it with a right, as a set. */
        int guestsWith(int page, int right, long good) {
            int guests = isPage(page) && isGuest(owners[page]) ? 1 << owners[page] : 0;
            for (int stamp = 0; stamp < stamps.made; stamp++) {
                if (isIn(good, stamp) && stamps.page[stamp] == page && (stamps.rights[stamp] & right) != 0) {
                    guests |= 1 << stamps.holder[stamp];
                }
            }
            return guests;
        }

        int hiddenWithout(int stamp, long good) {
            int page = stamps.page[stamp];
            return guestsWith(page, READ, good) & ~guestsWith(page, READ, goodStamps(stamp));
        }

        long needlessFor(int page) {
            long good = goodStamps(NONE);
            long candidates = good & stamps.ofOnePage(page);
            long needless = 0L;
            for (int stamp = 0; stamp < stamps.made; stamp++) {
                if (isIn(candidates, stamp) && hiddenWithout(stamp, good) == 0) {
                    needless |= 1L << stamp;
                }
            }
            return needless;
        }

        int longestChain() {
            long good = goodStamps(NONE);
            int best = NONE;
            int length = 0;
            for (int stamp = 0; stamp < stamps.made; stamp++) {
                if (isIn(good, stamp) && stamps.chainLength(stamp) > length) {
                    best = stamp;
                    length = stamps.chainLength(stamp);
                }
            }
            return best;
        }

        /** Wipes what WIPE asks for after a change of a page's owner or of one of its stamps. */
        private int wipeStale(int page, long goodBefore) {
            switch (settings[WIPE]) {
                case WIPE_ALL: return board.wipeThese(board.allNotes());
                case WIPE_PAGE: return board.wipeThese(board.notesOfPage(page));
                default: return board.wipeThese(notesLedBy(goodBefore & ~goodStamps(NONE)));
            }
        }

        private int notesLedBy(long lost) {
            int notes = 0;
            for (int note = 0; note < board.size; note++) {
                int stamp = ledBy(board.guest[note], board.door[note]);
                if (stamps.has(stamp) && isIn(lost, stamp)) {
                    notes |= 1 << note;
                }
            }
            return notes;
        }
    }

    /** The stamps in the order in which they were made: a row, or a set as a bit mask, for each thing known of them. */
    private static final class Stamps {
        final int[] page = new int[STAMPS];
        final int[] giver = new int[STAMPS];
        final int[] holder = new int[STAMPS];
        final int[] rights = new int[STAMPS];
        final int[] root = new int[STAMPS];
        long forged;
        long taken;
        int made;

        void copyFrom(Stamps other) {
            System.arraycopy(other.page, 0, page, 0, STAMPS);
            System.arraycopy(other.giver, 0, giver, 0, STAMPS);
            System.arraycopy(other.holder, 0, holder, 0, STAMPS);
            System.arraycopy(other.rights, 0, rights, 0, STAMPS);
            System.arraycopy(other.root, 0, root, 0, STAMPS);
            forged = other.forged;
            taken = other.taken;
            made = other.made;
        }

        boolean has(int stamp) {
            return stamp >= 0 && stamp < made;
        }

        boolean areFull() {
            return made >= STAMPS;
        }

        int add(int from, int to, int forPage, int withRights, int ofRoot, boolean isForged) {
            if (areFull()) {
                return TOO_MANY;
            }
            int stamp = made;
            giver[stamp] = from;
            holder[stamp] = to;
            page[stamp] = forPage;
            rights[stamp] = withRights;
            root[stamp] = ofRoot;
            if (isForged) {
                forged |= 1L << stamp;
            }
            made++;
            return stamp;
        }

        int chainLength(int stamp) {
            int length = 0;
            int at = stamp;
            while (length < STAMPS && has(at)) {
                length++;
                at = root[at];
            }
            return length;
        }

        /** How many other stamps have this one in their chains. */
        int countBelow(int stamp) {
            long below = 1L << stamp;
            for (int other = stamp + 1; other < made; other++) {
                if (has(root[other]) && isIn(below, root[other])) {
                    below |= 1L << other;
                }
            }
            return Long.bitCount(below) - 1;
        }

        long ofOnePage(int onePage) {
            long found = 0L;
            for (int stamp = 0; stamp < made; stamp++) {
                if (page[stamp] == onePage) {
                    found |= 1L << stamp;
                }
            }
            return found;
        }
    }

    /** The notes in their order, with the counts of those that went. Sets of notes are bit masks of their places. */
    private static final class Board {
        final int[] guest = new int[NOTES];
        final int[] door = new int[NOTES];
        final int[] need = new int[NOTES];
        final int[] page = new int[NOTES];
        int size;
        int wiped;
        int dropped;

        void copyFrom(Board other) {
            System.arraycopy(other.guest, 0, guest, 0, NOTES);
            System.arraycopy(other.door, 0, door, 0, NOTES);
            System.arraycopy(other.need, 0, need, 0, NOTES);
            System.arraycopy(other.page, 0, page, 0, NOTES);
            size = other.size;
            wiped = other.wiped;
            dropped = other.dropped;
        }

        boolean has(int note) {
            return note >= 0 && note < size;
        }

        int find(int ofGuest, int ofDoor, int ofNeed) {
            for (int note = 0; note < size; note++) {
                if (guest[note] == ofGuest && door[note] == ofDoor && need[note] == ofNeed) {
                    return note;
                }
            }
            return NONE;
        }

        int allNotes() {
            return (1 << size) - 1;
        }

        int notesOfPage(int ofPage) {
            int found = 0;
            for (int note = 0; note < size; note++) {
                if (page[note] == ofPage) {
                    found |= 1 << note;
                }
            }
            return found;
        }

        int notesOfDoor(int ofGuest, int ofDoor) {
            int found = 0;
            for (int note = 0; note < size; note++) {
                if (guest[note] == ofGuest && door[note] == ofDoor) {
                    found |= 1 << note;
                }
            }
            return found;
        }

        void add(int ofGuest, int ofDoor, int ofNeed, int ofPage) {
            if (size >= NOTES) {
                return;
            }
            guest[size] = ofGuest;
            door[size] = ofDoor;
            need[size] = ofNeed;
            page[size] = ofPage;
            size++;
        }

        void moveToEnd(int note) {
            int itsGuest = guest[note];
            int itsDoor = door[note];
            int itsNeed = need[note];
            int itsPage = page[note];
            remove(1 << note);
            add(itsGuest, itsDoor, itsNeed, itsPage);
        }

        int wipeThese(int notes) {
            int gone = remove(notes);
            wiped += gone;
            return gone;
        }

        void dropDownTo(int room) {
            if (size > room) {
                dropped += remove((1 << (size - room)) - 1);
            }
        }

        private int remove(int notes) {
            int left = 0;
            for (int note = 0; note < size; note++) {
                if (!isIn(notes, note)) {
                    guest[left] = guest[note];
                    door[left] = door[note];
                    need[left] = need[note];
                    page[left] = page[note];
                    left++;
                }
            }
            int gone = size - left;
            size = left;
            return gone;
        }
    }

    /** How the walk that was gone last ended: one object that is used again for each walk. */
    private static final class Walk {
        int reason;
        int steps;

        void go(House house, int guest, int door, int need) {
            int first = house.ledBy(guest, door);
            int at = first;
            steps = 0;
            reason = house.stamps.has(first) ? SEES : SHUT;
            while (reason == SEES && steps < STAMPS && house.stamps.has(at)) {
                steps++;
                reason = reasonAt(house, at, at == first, guest, need);
                at = house.stamps.root[at];
            }
        }

        /** The lowest reason that applies at a stamp, SEES if there is none. */
        private static int reasonAt(House house, int stamp, boolean atDoor, int guest, int need) {
            Stamps stamps = house.stamps;
            if (atDoor && stamps.holder[stamp] != guest) {
                return NOT_HOLDER;
            }
            if (isIn(stamps.forged, stamp)) {
                return FORGED;
            }
            if (isIn(stamps.taken, stamp)) {
                return TAKEN;
            }
            if (atDoor && (stamps.rights[stamp] & need) == 0) {
                return NO_NEED;
            }
            return house.isBacked(stamp) ? SEES : NOT_BACKED;
        }
    }

    /** The text of orders, and the order that was read of it last. */
    private static final class Pad {
        final char[] text = new char[PAD_ROOM];
        final int[] values = new int[4];
        int length;
        int at;
        int filled;
        char kind;

        int append(long characters) {
            int many = countSigns(characters);
            if (many == 0) {
                return BAD_VALUE;
            }
            if (length + many > PAD_ROOM) {
                return TOO_MANY;
            }
            for (int sign = many - 1; sign >= 0; sign--) {
                text[length] = (char) signAt(characters, sign);
                length++;
            }
            return length;
        }

        /** How many characters the number gives; 0 if it gives none, or one that is not allowed. */
        private static int countSigns(long characters) {
            int many = 0;
            // 8 bits that are 0 with something above them fall out as a code that is too low.
            while (many < SIGNS_AT_ONCE && characters >>> (8 * many) != 0L) {
                int code = signAt(characters, many);
                if (code < FIRST_SIGN || code > LAST_SIGN) {
                    return 0;
                }
                many++;
            }
            return many;
        }

        private static int signAt(long characters, int sign) {
            return (int) (characters >>> (8 * sign) & 255L);
        }

        int clear() {
            int before = length;
            length = 0;
            return before;
        }

        int findFault() {
            startReading();
            for (int order = 0; order < PAD_ROOM && readOrder(); order++) {
                if (at >= length) {
                    return NONE;
                }
                if (text[at] != ';') {
                    return at;
                }
                skipSign();
            }
            return at;
        }

        void startReading() {
            at = 0;
        }

        void skipSign() {
            at++;
        }

        /** Reads an order from here on; if it has a fault, at is the place of it. */
        boolean readOrder() {
            if (at >= length) {
                return false;
            }
            kind = text[at];
            String shape = shapeOf(kind);
            if (shape.isEmpty()) {
                return false;
            }
            skipSign();
            filled = 0;
            for (int part = 0; part < shape.length(); part++) {
                if (at >= length || !readPart(shape.charAt(part))) {
                    return false;
                }
            }
            return true;
        }

        /**
         * What follows the first character of an order: n is a number, g a guest, d a digit, f the rights, a the need,
         * N and G the same as n and g or "-"; any other character is itself.
         */
        private static String shapeOf(char kind) {
            switch (kind) {
                case 'o': return "n=G";
                case 's': return "g>g:n*f";
                case 'p': return "n>g*f";
                case 't': return "n";
                case 'd': return "g.d=N";
                case '?': return "g.da";
                default: return "";
            }
        }

        private boolean readPart(char part) {
            char sign = text[at];
            switch (part) {
                case 'n': return readNumber();
                case 'N': return sign == '-' ? take(NONE) : readNumber();
                case 'g': return readDigit('0', '5');
                case 'G': return sign == '-' ? take(NONE) : readDigit('0', '5');
                case 'd': return readDigit('0', '9');
                case 'f': return readDigit('1', '7');
                case 'a': return readNeed();
                default: return readItself(part);
            }
        }

        private boolean readItself(char expected) {
            if (text[at] != expected) {
                return false;
            }
            skipSign();
            return true;
        }

        private boolean readNeed() {
            if (text[at] == 'r') {
                return take(READ);
            }
            return text[at] == 'w' && take(WRITE);
        }

        private boolean readDigit(char lowest, char highest) {
            char sign = text[at];
            return sign >= lowest && sign <= highest && take(sign - '0');
        }

        /** A digit that may not follow is left for the next part, which finds its fault there. */
        private boolean readNumber() {
            char first = text[at];
            if (first < '0' || first > '9') {
                return false;
            }
            int number = first - '0';
            if (number > 0 && at + 1 < length && text[at + 1] >= '0' && text[at + 1] <= '9') {
                skipSign();
                number = number * 10 + (text[at] - '0');
            }
            return take(number);
        }

        private boolean take(int value) {
            if (filled < values.length) {
                values[filled] = value;
                filled++;
            }
            skipSign();
            return true;
        }
    }

    /** The states before the latest changes, the oldest one first; behind them stands one that is not kept (yet). */
    private static final class History {
        final House[] past = new House[HISTORY + 1];
        int kept;

        /** Copies the state before a call whose result is not known yet. */
        void remember(House house) {
            if (past[kept] == null) {
                past[kept] = new House();
            }
            past[kept].copyFrom(house);
        }

        int keepUnlessError(int result) {
            if (result >= 0) {
                keepLast();
            }
            return result;
        }

        private void keepLast() {
            if (kept < HISTORY) {
                kept++;
                return;
            }
            House oldest = past[0];
            for (int place = 0; place < HISTORY; place++) {
                past[place] = past[place + 1];
            }
            past[HISTORY] = oldest;
        }

        int goBack(House house) {
            House before = kept > 0 ? past[kept - 1] : null;
            if (before == null) {
                return NOT_POSSIBLE;
            }
            kept--;
            house.copyFrom(before);
            return kept;
        }
    }
}
