/**
 * An escheat office: lots without an owner, the claims of heirs to them, and the days after which
 * a lot falls to the crown. README.md tells how to use it; the promises are those of DOC.md.
 *
 * Sets of lots, heirs and claims are bit masks throughout, inside as well as in the answers.
 */
public final class EscheatLots {
    public static final int NO_SUCH = -1, BAD_VALUE = -2, BAD_TEXT = -3, TOO_MANY = -4, NOT_POSSIBLE = -5, NONE = -6;
    public static final int TERM = 0, PROOF = 1, LAPSE = 2, BACK = 3, FEE = 4;

    private static final int LOTS = 12, CLAIMS = 30, HEIRS = 16, LINES = 5, SETTINGS = 5;
    private static final int HIGHEST_VALUE = 9999, FULL_PROOF = 100, LONGEST_PASS = 400, LAST_DAY = 9999;
    private static final int PAD_LENGTH = 80, DIGITS = 4, PACKED = 8, FIRST_CODE = 33, LAST_CODE = 126;
    private static final int HISTORY = 6, SLOTS = 2;

    private static final int KEPT = 0, NOTICED = 1, GIVEN = 2, FALLEN = 3, RETURNED = 4;
    private static final int OPEN = 0, UPHELD = 1, REFUSED = 2, WITHDRAWN = 3, LAPSED = 4, SETTLED = 5;

    private static final int[] LEAST = {1, 1, 1, 0, 0};
    private static final int[] MOST = {400, 100, 200, 400, 50};
    private static final int[] AT_FIRST = {366, 60, 90, 30, 5};

    private final Office office = new Office();
    private final Pad pad = new Pad();

    // The states that can be undone are the first ones, the oldest ahead. The one behind them is a
    // draft of the state before the call that runs; the call makes it count if it is a change.
    private final Office[] history = new Office[HISTORY + 1];
    private int changes = 0;

    private final Office[] slots = new Office[SLOTS];
    private final boolean[] saved = new boolean[SLOTS];

    public EscheatLots() {
        for (int i = 0; i < history.length; i++) {
            history[i] = new Office();
        }
        for (int i = 0; i < slots.length; i++) {
            slots[i] = new Office();
        }
    }

    // ---- changes

    public int set(int setting, int value) {
        draft();
        return recorded(office.changeSetting(setting, value));
    }

    public int lot(int value) {
        draft();
        return recorded(office.addLot(value));
    }

    public int notice(int lot) {
        draft();
        return recorded(office.giveNotice(lot));
    }

    public int claim(int heir, int lot, int line) {
        draft();
        return recorded(office.addClaim(heir, lot, line));
    }

    public int prove(int claim, int points) {
        draft();
        return recorded(office.addProof(claim, points));
    }

    public int decide(int claim) {
        draft();
        return recorded(office.judge(claim));
    }

    public int withdraw(int claim) {
        draft();
        return recorded(office.takeBack(claim));
    }

    public int settle(int lot) {
        draft();
        return recorded(office.shareOut(lot));
    }

    public int pass(int days) {
        draft();
        return recorded(office.passDays(days));
    }

    // ---- what there is

    public int of(int lot, int what) {
        return office.aboutLot(lot, what);
    }

    public int ofClaim(int claim, int what) {
        return office.aboutClaim(claim, what);
    }

    public int heir(int heir, int what) {
        return office.aboutHeir(heir, what);
    }

    public int paid(int rank) {
        return office.heirPaid(rank);
    }

    public int count(int what) {
        if (what == 19) {
            return pad.length;
        }
        return what == 20 ? changes : office.number(what);
    }

    // ---- what if; nothing changes

    public int why(int lot) {
        return office.whyNot(lot);
    }

    public int fallsIn(int lot) {
        return office.daysToFall(lot);
    }

    public int share(int lot, int heir, int way) {
        return office.wouldGet(lot, heir, way);
    }

    public int nextFall(int what) {
        return office.firstFall(what);
    }

    public int nextLapse(int what) {
        return office.firstLapse(what);
    }

    // ---- texts

    public int put(long characters) {
        return pad.append(characters);
    }

    public int wipe() {
        return pad.empty();
    }

    public int fault() {
        return pad.firstFault();
    }

    public int carryOut() {
        if (pad.firstFault() != NONE) {
            return BAD_TEXT;
        }
        draft();
        pad.at = 0;
        int done = 0;
        while (done < PAD_LENGTH && pad.readOrder() && carryOutOrder() >= 0) {
            done++;
            pad.readSign(';');
        }
        pad.empty();
        return recorded(done);
    }

    /** Does what the order says that was read last; it goes past the history, which gets the whole text as one. */
    private int carryOutOrder() {
        switch (pad.kind) {
            case 'l': return office.addLot(pad.first);
            case 'n': return office.giveNotice(pad.first);
            case 'c': return office.addClaim(pad.first, pad.second, pad.third);
            case 'p': return office.addProof(pad.first, pad.second);
            case 'd': return office.judge(pad.first);
            case 'w': return office.takeBack(pad.first);
            case 's': return office.shareOut(pad.first);
            default: return office.passDays(pad.first);
        }
    }

    // ---- undo, saving

    public int undo() {
        if (changes == 0) {
            return NOT_POSSIBLE;
        }
        changes--;
        office.become(history[changes]);
        return changes;
    }

    public int save(int slot) {
        if (slot < 0 || slot >= SLOTS) {
            return BAD_VALUE;
        }
        slots[slot].become(office);
        saved[slot] = true;
        return office.lots.count;
    }

    public int restore(int slot) {
        if (slot < 0 || slot >= SLOTS) {
            return BAD_VALUE;
        }
        if (!saved[slot]) {
            return NOT_POSSIBLE;
        }
        draft();
        office.become(slots[slot]);
        return recorded(office.lots.count);
    }

    /** Notes the state before a call, which is a change only if it brings no error. */
    private void draft() {
        history[changes].become(office);
    }

    /** Makes the draft count if the answer is no error, and hands the answer on. */
    private int recorded(int answer) {
        if (answer < 0) {
            return answer;
        }
        if (changes < HISTORY) {
            changes++;
        } else {
            dropOldest();
        }
        return answer;
    }

    /** The oldest state's object becomes the room for the next draft, so that none is made anew. */
    private void dropOldest() {
        Office oldest = history[0];
        for (int i = 0; i < HISTORY; i++) {
            history[i] = history[i + 1];
        }
        history[HISTORY] = oldest;
    }

    // ---- sets and columns of numbers

    private static boolean holds(int set, int member) {
        return ((set >> member) & 1) == 1;
    }

    /** The set of the first n members. */
    private static int firstOnes(int n) {
        return (1 << n) - 1;
    }

    /** Those of the first n rows that have a number in a column. */
    private static int rowsWith(int[] column, int n, int number) {
        int rows = 0;
        for (int i = 0; i < n && i < column.length; i++) {
            if (column[i] == number) {
                rows |= 1 << i;
            }
        }
        return rows;
    }

    /** The numbers that a column has in some rows, as a set. */
    private static int numbersIn(int[] column, int rows) {
        int numbers = 0;
        for (int i = 0; i < column.length; i++) {
            if (holds(rows, i)) {
                numbers |= 1 << column[i];
            }
        }
        return numbers;
    }

    /** The sum of a column over some rows. */
    private static int sum(int[] column, int rows) {
        int sum = 0;
        for (int i = 0; i < column.length; i++) {
            if (holds(rows, i)) {
                sum += column[i];
            }
        }
        return sum;
    }

    private static void copy(int[] from, int[] to) {
        System.arraycopy(from, 0, to, 0, Math.min(from.length, to.length));
    }

    /** The lots, a row each; a row that was never used is 0 in every column. */
    private static final class Lots {
        int count = 0;
        final int[] value = new int[LOTS];
        final int[] state = new int[LOTS];
        final int[] counted = new int[LOTS];
        final int[] since = new int[LOTS];

        void become(Lots other) {
            count = other.count;
            copy(other.value, value);
            copy(other.state, state);
            copy(other.counted, counted);
            copy(other.since, since);
        }

        boolean exists(int lot) {
            return lot >= 0 && lot < count;
        }

        int all() {
            return firstOnes(count);
        }

        int inState(int wanted) {
            return rowsWith(state, count, wanted);
        }

        /** Whether heirs have got the lot, so that nothing can happen to it any more. */
        boolean isOver(int lot) {
            return state[lot] == GIVEN || state[lot] == RETURNED;
        }
    }

    /** The claims, a row each; a row that was never used is 0 in every column. */
    private static final class Claims {
        int count = 0;
        final int[] heir = new int[CLAIMS];
        final int[] lot = new int[CLAIMS];
        final int[] line = new int[CLAIMS];
        final int[] proof = new int[CLAIMS];
        final int[] state = new int[CLAIMS];
        final int[] waited = new int[CLAIMS];
        final int[] brought = new int[CLAIMS];

        void become(Claims other) {
            count = other.count;
            copy(other.heir, heir);
            copy(other.lot, lot);
            copy(other.line, line);
            copy(other.proof, proof);
            copy(other.state, state);
            copy(other.waited, waited);
            copy(other.brought, brought);
        }

        boolean exists(int claim) {
            return claim >= 0 && claim < count;
        }

        boolean isOpen(int claim) {
            return state[claim] == OPEN;
        }

        boolean stands(int claim) {
            return state[claim] == OPEN || state[claim] == UPHELD;
        }

        int all() {
            return firstOnes(count);
        }

        int inState(int wanted) {
            return rowsWith(state, count, wanted);
        }

        int standing() {
            return inState(OPEN) | inState(UPHELD);
        }

        int ofHeir(int who) {
            return rowsWith(heir, count, who);
        }

        int toLot(int which) {
            return rowsWith(lot, count, which);
        }

        int openTo(int which) {
            return toLot(which) & inState(OPEN);
        }

        int upheldTo(int which) {
            return toLot(which) & inState(UPHELD);
        }

        int standingTo(int which) {
            return toLot(which) & standing();
        }

        int thatBrought() {
            return all() & ~rowsWith(brought, count, 0);
        }

        /** The nearest line of some claims, NONE without one. */
        int nearestLine(int claims) {
            int nearest = NONE;
            for (int claim = 0; claim < count; claim++) {
                if (holds(claims, claim) && (nearest == NONE || line[claim] < nearest)) {
                    nearest = line[claim];
                }
            }
            return nearest;
        }

        /** Those of some claims that are of the nearest line among them. */
        int nearest(int claims) {
            return claims & rowsWith(line, count, nearestLine(claims));
        }

        /** Lets the open claims wait for a day; returns the lots to which a claim stands then, as a set. */
        int waitOneDay(int lapse) {
            int claimed = 0;
            for (int claim = 0; claim < count; claim++) {
                if (isOpen(claim)) {
                    waitLonger(claim, lapse);
                }
                if (stands(claim)) {
                    claimed |= 1 << lot[claim];
                }
            }
            return claimed;
        }

        private void waitLonger(int claim, int lapse) {
            waited[claim]++;
            if (waited[claim] >= lapse) {
                state[claim] = LAPSED;
            }
        }
    }

    /** All that is undone and saved: everything except the pad, the slots and the history. */
    private static final class Office {
        final int[] settings = new int[SETTINGS];
        final Lots lots = new Lots();
        final Claims claims = new Claims();
        final int[] paidOrder = new int[HEIRS];
        int paidHeirs = 0;
        int crown = 0;
        int day = 0;

        Office() {
            copy(AT_FIRST, settings);
        }

        void become(Office other) {
            copy(other.settings, settings);
            lots.become(other.lots);
            claims.become(other.claims);
            copy(other.paidOrder, paidOrder);
            paidHeirs = other.paidHeirs;
            crown = other.crown;
            day = other.day;
        }

        static boolean isHeir(int heir) {
            return heir >= 0 && heir < HEIRS;
        }

        // -- changes: each looks for all its errors before it changes anything

        int changeSetting(int setting, int value) {
            if (setting < 0 || setting >= SETTINGS) {
                return BAD_VALUE;
            }
            if (value < LEAST[setting] || value > MOST[setting]) {
                return BAD_VALUE;
            }
            int before = settings[setting];
            settings[setting] = value;
            return before;
        }

        int addLot(int value) {
            if (value < 1 || value > HIGHEST_VALUE) {
                return BAD_VALUE;
            }
            if (lots.count >= LOTS) {
                return TOO_MANY;
            }
            int lot = lots.count;
            lots.value[lot] = value;
            lots.count++;
            return lot;
        }

        int giveNotice(int lot) {
            if (!lots.exists(lot)) {
                return NO_SUCH;
            }
            if (lots.state[lot] != KEPT) {
                return NOT_POSSIBLE;
            }
            lots.state[lot] = NOTICED;
            return Integer.bitCount(lots.inState(NOTICED));
        }

        int addClaim(int heir, int lot, int line) {
            if (!isHeir(heir) || !lots.exists(lot)) {
                return NO_SUCH;
            }
            if (line < 1 || line > LINES) {
                return BAD_VALUE;
            }
            if (!canBeClaimed(lot) || (claims.ofHeir(heir) & claims.standingTo(lot)) != 0) {
                return NOT_POSSIBLE;
            }
            if (claims.count >= CLAIMS) {
                return TOO_MANY;
            }
            int claim = claims.count;
            claims.heir[claim] = heir;
            claims.lot[claim] = lot;
            claims.line[claim] = line;
            claims.count++;
            return claim;
        }

        private boolean canBeClaimed(int lot) {
            if (lots.state[lot] == FALLEN) {
                return lots.since[lot] <= settings[BACK];
            }
            return !lots.isOver(lot);
        }

        int addProof(int claim, int points) {
            if (!claims.exists(claim)) {
                return NO_SUCH;
            }
            if (points < 1 || points > FULL_PROOF) {
                return BAD_VALUE;
            }
            if (!claims.isOpen(claim)) {
                return NOT_POSSIBLE;
            }
            claims.proof[claim] = Math.min(FULL_PROOF, claims.proof[claim] + points);
            claims.waited[claim] = 0;
            return claims.proof[claim];
        }

        int judge(int claim) {
            if (!claims.exists(claim)) {
                return NO_SUCH;
            }
            if (!claims.isOpen(claim)) {
                return NOT_POSSIBLE;
            }
            claims.state[claim] = claims.proof[claim] >= settings[PROOF] ? UPHELD : REFUSED;
            return claims.state[claim];
        }

        int takeBack(int claim) {
            if (!claims.exists(claim)) {
                return NO_SUCH;
            }
            if (!claims.stands(claim)) {
                return NOT_POSSIBLE;
            }
            claims.state[claim] = WITHDRAWN;
            return Integer.bitCount(claims.standingTo(claims.lot[claim]));
        }

        int shareOut(int lot) {
            if (!lots.exists(lot)) {
                return NO_SUCH;
            }
            int upheld = claims.upheldTo(lot);
            if (lots.isOver(lot) || claims.openTo(lot) != 0 || upheld == 0) {
                return NOT_POSSIBLE;
            }
            int coins = coinsToShare(lot);
            int sharers = claims.nearest(upheld);
            for (int claim = 0; claim < claims.count; claim++) {
                if (holds(upheld, claim)) {
                    settleClaim(claim, part(coins, sharers, 1 << claim));
                }
            }
            leaveOffice(lot, coins);
            return Integer.bitCount(sharers);
        }

        /** What heirs get of a lot: of one that has fallen the crown keeps its fee. */
        private int coinsToShare(int lot) {
            int value = lots.value[lot];
            return lots.state[lot] == FALLEN ? value - value * settings[FEE] / 100 : value;
        }

        /** What one claim, given as a set, gets of coins; the earliest sharers get those that are left over. */
        private static int part(int coins, int sharers, int claim) {
            int parts = Integer.bitCount(sharers);
            if (parts == 0 || (sharers & claim) == 0) {
                return 0;
            }
            int earlier = Integer.bitCount(sharers & (claim - 1));
            return coins / parts + (earlier < coins % parts ? 1 : 0);
        }

        private void settleClaim(int claim, int coins) {
            int heir = claims.heir[claim];
            if (coins > 0 && purse(heir) == 0 && paidHeirs < HEIRS) {
                paidOrder[paidHeirs] = heir;
                paidHeirs++;
            }
            claims.brought[claim] = coins;
            claims.state[claim] = SETTLED;
        }

        private void leaveOffice(int lot, int coins) {
            if (lots.state[lot] == FALLEN) {
                // The crown has had the whole value since the fall; what it does not pay out is its fee.
                crown -= coins;
                lots.state[lot] = RETURNED;
            } else {
                lots.state[lot] = GIVEN;
            }
        }

        int passDays(int days) {
            if (days < 1 || days > LONGEST_PASS) {
                return BAD_VALUE;
            }
            if (day + days > LAST_DAY) {
                return NOT_POSSIBLE;
            }
            int falls = 0;
            for (int i = 0; i < days; i++) {
                falls += passDay();
            }
            return falls;
        }

        /** Lets one day pass, and returns how many lots fall in it. */
        private int passDay() {
            // All claims wait ahead of all lots: no lot's day depends on another lot, so this is lot by lot, too.
            int claimed = claims.waitOneDay(settings[LAPSE]);
            int falls = 0;
            for (int lot = 0; lot < lots.count; lot++) {
                if (lots.state[lot] == FALLEN) {
                    lots.since[lot]++;
                } else if (lots.state[lot] == NOTICED && !holds(claimed, lot)) {
                    falls += countDay(lot);
                }
            }
            day++;
            return falls;
        }

        /** Counts one day more for a lot; returns 1 if it falls by that, otherwise 0. */
        private int countDay(int lot) {
            lots.counted[lot]++;
            if (lots.counted[lot] < settings[TERM]) {
                return 0;
            }
            lots.state[lot] = FALLEN;
            crown += lots.value[lot];
            return 1;
        }

        // -- what there is

        int aboutLot(int lot, int what) {
            if (!lots.exists(lot)) {
                return NO_SUCH;
            }
            switch (what) {
                case 0: return lots.value[lot];
                case 1: return lots.state[lot];
                case 2: return lots.counted[lot];
                case 3: return lots.since[lot];
                case 4: return claims.standingTo(lot);
                case 5: return claims.toLot(lot);
                case 6: return claims.nearestLine(claims.upheldTo(lot));
                default: return BAD_VALUE;
            }
        }

        int aboutClaim(int claim, int what) {
            if (!claims.exists(claim)) {
                return NO_SUCH;
            }
            switch (what) {
                case 0: return claims.heir[claim];
                case 1: return claims.lot[claim];
                case 2: return claims.line[claim];
                case 3: return claims.proof[claim];
                case 4: return claims.state[claim];
                case 5: return claims.waited[claim];
                case 6: return claims.brought[claim];
                default: return BAD_VALUE;
            }
        }

        int aboutHeir(int heir, int what) {
            if (!isHeir(heir)) {
                return NO_SUCH;
            }
            switch (what) {
                case 0: return purse(heir);
                case 1: return claims.ofHeir(heir);
                case 2: return claims.ofHeir(heir) & claims.standing();
                case 3: return numbersIn(claims.lot, claims.ofHeir(heir) & claims.thatBrought());
                default: return BAD_VALUE;
            }
        }

        /** A purse is not kept: nothing leaves it, so it is what the heir's claims brought. */
        private int purse(int heir) {
            return sum(claims.brought, claims.ofHeir(heir));
        }

        int heirPaid(int rank) {
            return rank >= 0 && rank < paidHeirs ? paidOrder[rank] : NO_SUCH;
        }

        int number(int what) {
            if (what >= 3 && what <= 7) {
                return lots.inState(what - 3);
            }
            if (what >= 14 && what < 14 + SETTINGS) {
                return settings[what - 14];
            }
            switch (what) {
                case 0: return day;
                case 1: return lots.count;
                case 2: return claims.count;
                case 8: return sum(lots.value, lots.all());
                case 9: return sum(lots.value, lots.inState(KEPT) | lots.inState(NOTICED));
                case 10: return crown;
                case 11: return sum(claims.brought, claims.all());
                case 12: return claims.standing();
                case 13: return Integer.bitCount(numbersIn(claims.heir, claims.all()));
                default: return BAD_VALUE;
            }
        }

        // -- what if

        int whyNot(int lot) {
            if (!lots.exists(lot)) {
                return NO_SUCH;
            }
            if (lots.state[lot] != NOTICED) {
                return 1;
            }
            if (claims.openTo(lot) != 0) {
                return 2;
            }
            return claims.upheldTo(lot) != 0 ? 3 : 0;
        }

        /** At most 199 days until the last claim lapses and 400 counted ones: a lot that falls does so within 700. */
        int daysToFall(int lot) {
            if (!lots.exists(lot)) {
                return NO_SUCH;
            }
            if (lots.state[lot] != NOTICED) {
                return NOT_POSSIBLE;
            }
            if (claims.upheldTo(lot) != 0) {
                return NONE;
            }
            return idleDays(lot) + Math.max(1, settings[TERM] - lots.counted[lot]);
        }

        /** How many days are not counted because a claim is open; the day on which the last one lapses is counted. */
        private int idleDays(int lot) {
            int open = claims.openTo(lot);
            int idle = 0;
            for (int claim = 0; claim < claims.count; claim++) {
                if (holds(open, claim)) {
                    idle = Math.max(idle, daysToLapse(claim) - 1);
                }
            }
            return idle;
        }

        /** At least 1, also if LAPSE has been made less than the claim has waited: claims lapse in days only. */
        private int daysToLapse(int claim) {
            return Math.max(1, settings[LAPSE] - claims.waited[claim]);
        }

        int wouldGet(int lot, int heir, int way) {
            if (!lots.exists(lot) || !isHeir(heir)) {
                return NO_SUCH;
            }
            if (way != 0 && way != 1) {
                return BAD_VALUE;
            }
            if (lots.isOver(lot)) {
                return NOT_POSSIBLE;
            }
            int sharers = claims.nearest(way == 0 ? claims.upheldTo(lot) : claims.standingTo(lot));
            return part(coinsToShare(lot), sharers, sharers & claims.ofHeir(heir));
        }

        int firstFall(int what) {
            if (what != 0 && what != 1) {
                return BAD_VALUE;
            }
            int first = NONE;
            int days = NONE;
            for (int lot = 0; lot < lots.count; lot++) {
                int falls = daysToFall(lot);
                if (falls > 0 && (days == NONE || falls < days)) {
                    first = lot;
                    days = falls;
                }
            }
            return what == 0 ? first : days;
        }

        int firstLapse(int what) {
            if (what != 0 && what != 1) {
                return BAD_VALUE;
            }
            int first = NONE;
            for (int claim = 0; claim < claims.count; claim++) {
                if (claims.isOpen(claim) && (first == NONE || lapsesAhead(claim, first))) {
                    first = claim;
                }
            }
            return what == 1 || first == NONE ? first : daysToLapse(first);
        }

        /** Whether a claim lapses ahead of a lower one: of one day, claims lapse by lots. */
        private boolean lapsesAhead(int claim, int lower) {
            int days = daysToLapse(claim);
            int lowerDays = daysToLapse(lower);
            return days < lowerDays || (days == lowerDays && claims.lot[claim] < claims.lot[lower]);
        }
    }

    /** The pad, and a reader of its orders; the reader never goes past a character that cannot stand. */
    private static final class Pad {
        final char[] text = new char[PAD_LENGTH];
        int length = 0;

        // Where the reader is, and the order that it read last: its letter and its numbers.
        int at = 0;
        char kind = ' ';
        int first = 0;
        int second = 0;
        int third = 0;

        int append(long characters) {
            int more = charactersIn(characters);
            if (more == 0) {
                return BAD_VALUE;
            }
            if (length + more > PAD_LENGTH) {
                return TOO_MANY;
            }
            for (int i = more - 1; i >= 0; i--) {
                text[length] = (char) codeAt(characters, i);
                length++;
            }
            return length;
        }

        /** How many characters a number packs, 0 if it is not as it should be. */
        private static int charactersIn(long characters) {
            for (int i = 0; i < PACKED; i++) {
                if (characters >>> (8 * i) == 0) {
                    return i;
                }
                int code = codeAt(characters, i);
                if (code < FIRST_CODE || code > LAST_CODE) {
                    return 0;
                }
            }
            return PACKED;
        }

        private static int codeAt(long characters, int i) {
            return (int) (characters >>> (8 * i)) & 255;
        }

        int empty() {
            int before = length;
            length = 0;
            return before;
        }

        int firstFault() {
            at = 0;
            boolean good = readOrder();
            for (int orders = 1; good && at < length && orders < PAD_LENGTH; orders++) {
                good = readSign(';') && readOrder();
            }
            return good ? NONE : at;
        }

        /** Reads an order; if that fails, the reader stands at the character that cannot stand, or at the end. */
        boolean readOrder() {
            if (at >= length) {
                return false;
            }
            kind = text[at];
            switch (kind) {
                case 'l': case 'n': case 'd': case 'w': case 's': case 't':
                    at++;
                    return readFirst();
                case 'p':
                    at++;
                    return readFirst() && readSign('+') && readSecond();
                case 'c':
                    at++;
                    return readFirst() && readSign('@') && readSecond() && readSign('/') && readThird();
                default:
                    return false;
            }
        }

        private boolean readFirst() {
            first = readNumber();
            return first >= 0;
        }

        private boolean readSecond() {
            second = readNumber();
            return second >= 0;
        }

        private boolean readThird() {
            third = readDigit();
            return third >= 0;
        }

        boolean readSign(char sign) {
            if (at >= length || text[at] != sign) {
                return false;
            }
            at++;
            return true;
        }

        /** Reads a number, -1 if there is none. A digit that it must not have is left to whatever is read next. */
        private int readNumber() {
            int number = readDigit();
            if (number <= 0) {
                return number;
            }
            for (int digits = 1; digits < DIGITS; digits++) {
                int digit = readDigit();
                if (digit < 0) {
                    return number;
                }
                number = number * 10 + digit;
            }
            return number;
        }

        private int readDigit() {
            if (at >= length || text[at] < '0' || text[at] > '9') {
                return -1;
            }
            int digit = text[at] - '0';
            at++;
            return digit;
        }
    }
}
