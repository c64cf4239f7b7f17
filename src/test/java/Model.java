import java.util.ArrayList;
import java.util.List;
import java.util.regex.Matcher;
import java.util.regex.Pattern;

/**
 * The document once more, in the plainest form that could be thought of, to be compared with the class: days
 * pass one by one and lot by lot, what-ifs are tried on a copy, faults are found by a pattern.
 */
final class Model {
    static final int NO_SUCH = -1, BAD_VALUE = -2, BAD_TEXT = -3, TOO_MANY = -4, NOT_POSSIBLE = -5, NONE = -6;

    private static final String NUMBER = "(0|[1-9][0-9]{0,3})";
    private static final String ORDER = "([lndwst]" + NUMBER + "|c" + NUMBER + "@" + NUMBER + "/[0-9]|p" + NUMBER
        + "\\+" + NUMBER + ")";
    private static final Pattern TEXT = Pattern.compile(ORDER + "(;" + ORDER + ")*");

    private static final class Lot {
        int value, state, counted, since;

        Lot copy() {
            Lot c = new Lot();
            c.value = value;
            c.state = state;
            c.counted = counted;
            c.since = since;
            return c;
        }
    }

    private static final class Claim {
        int heir, lot, line, proof, state, waited, brought;

        boolean stands() {
            return state <= 1;
        }

        Claim copy() {
            Claim c = new Claim();
            c.heir = heir;
            c.lot = lot;
            c.line = line;
            c.proof = proof;
            c.state = state;
            c.waited = waited;
            c.brought = brought;
            return c;
        }
    }

    private static final class State {
        int term = 366, proof = 60, lapse = 90, back = 30, fee = 5, day, crown;
        int[] purses = new int[16];
        List<Integer> paid = new ArrayList<>();
        List<Lot> lots = new ArrayList<>();
        List<Claim> claims = new ArrayList<>();

        State copy() {
            State c = new State();
            c.term = term;
            c.proof = proof;
            c.lapse = lapse;
            c.back = back;
            c.fee = fee;
            c.day = day;
            c.crown = crown;
            c.purses = purses.clone();
            c.paid.addAll(paid);
            for (Lot lot : lots) {
                c.lots.add(lot.copy());
            }
            for (Claim claim : claims) {
                c.claims.add(claim.copy());
            }
            return c;
        }

        boolean hasLot(int lot) {
            return 0 <= lot && lot < lots.size();
        }

        boolean hasClaim(int claim) {
            return 0 <= claim && claim < claims.size();
        }

        int oneDay() {
            int falls = 0;
            for (int l = 0; l < lots.size(); l++) {
                Lot lot = lots.get(l);
                boolean hadFallen = lot.state == 3;
                boolean free = true;
                for (Claim claim : claims) {
                    if (claim.lot == l && claim.state == 0 && ++claim.waited >= lapse) {
                        claim.state = 4;
                    }
                    free &= claim.lot != l || !claim.stands();
                }
                if (lot.state == 1 && free && ++lot.counted >= term) {
                    lot.state = 3;
                    crown += lot.value;
                    falls++;
                }
                if (hadFallen) {
                    lot.since++;
                }
            }
            day++;
            return falls;
        }

        int settle(int l) {
            if (!hasLot(l)) {
                return NO_SUCH;
            }
            Lot lot = lots.get(l);
            int nearest = 9;
            for (Claim claim : claims) {
                if (claim.lot == l && claim.state == 0) {
                    return NOT_POSSIBLE;
                }
                if (claim.lot == l && claim.state == 1) {
                    nearest = Math.min(nearest, claim.line);
                }
            }
            if (lot.state == 2 || lot.state == 4 || nearest == 9) {
                return NOT_POSSIBLE;
            }
            List<Claim> sharers = new ArrayList<>();
            for (Claim claim : claims) {
                if (claim.lot == l && claim.state == 1) {
                    claim.state = 5;
                    if (claim.line == nearest) {
                        sharers.add(claim);
                    }
                }
            }
            int coins = lot.value;
            if (lot.state == 3) {
                int kept = lot.value * fee / 100;
                crown -= lot.value;
                crown += kept;
                coins -= kept;
                lot.state = 4;
            } else {
                lot.state = 2;
            }
            for (int coin = 0; coin < coins; coin++) {
                sharers.get(coin % sharers.size()).brought++;
            }
            for (Claim claim : sharers) {
                purses[claim.heir] += claim.brought;
                if (claim.brought > 0 && !paid.contains(claim.heir)) {
                    paid.add(claim.heir);
                }
            }
            return sharers.size();
        }
    }

    private State now = new State();
    private final List<State> history = new ArrayList<>();
    private final State[] slots = new State[2];
    private String pad = "";
    private boolean inText = false;

    private int change(State before, int answer) {
        if (answer >= 0 && !inText) {
            history.add(before);
            if (history.size() > 6) {
                history.remove(0);
            }
        }
        return answer;
    }

    int set(int setting, int value) {
        int[] least = {1, 1, 1, 0, 0};
        int[] most = {400, 100, 200, 400, 50};
        if (setting < 0 || setting > 4 || value < least[setting] || value > most[setting]) {
            return BAD_VALUE;
        }
        State before = now.copy();
        int old = count(14 + setting);
        switch (setting) {
            case 0 -> now.term = value;
            case 1 -> now.proof = value;
            case 2 -> now.lapse = value;
            case 3 -> now.back = value;
            default -> now.fee = value;
        }
        return change(before, old);
    }

    int lot(int value) {
        if (value < 1 || value > 9999) {
            return BAD_VALUE;
        }
        if (now.lots.size() == 12) {
            return TOO_MANY;
        }
        State before = now.copy();
        Lot lot = new Lot();
        lot.value = value;
        now.lots.add(lot);
        return change(before, now.lots.size() - 1);
    }

    int notice(int lot) {
        if (!now.hasLot(lot)) {
            return NO_SUCH;
        }
        if (now.lots.get(lot).state != 0) {
            return NOT_POSSIBLE;
        }
        State before = now.copy();
        now.lots.get(lot).state = 1;
        return change(before, (int) now.lots.stream().filter(l -> l.state == 1).count());
    }

    int claim(int heir, int lot, int line) {
        if (heir < 0 || heir > 15 || !now.hasLot(lot)) {
            return NO_SUCH;
        }
        if (line < 1 || line > 5) {
            return BAD_VALUE;
        }
        Lot wanted = now.lots.get(lot);
        if (wanted.state == 2 || wanted.state == 4 || (wanted.state == 3 && wanted.since > now.back)) {
            return NOT_POSSIBLE;
        }
        for (Claim claim : now.claims) {
            if (claim.heir == heir && claim.lot == lot && claim.stands()) {
                return NOT_POSSIBLE;
            }
        }
        if (now.claims.size() == 30) {
            return TOO_MANY;
        }
        State before = now.copy();
        Claim claim = new Claim();
        claim.heir = heir;
        claim.lot = lot;
        claim.line = line;
        now.claims.add(claim);
        return change(before, now.claims.size() - 1);
    }

    int prove(int claim, int points) {
        if (!now.hasClaim(claim)) {
            return NO_SUCH;
        }
        if (points < 1 || points > 100) {
            return BAD_VALUE;
        }
        if (now.claims.get(claim).state != 0) {
            return NOT_POSSIBLE;
        }
        State before = now.copy();
        Claim proved = now.claims.get(claim);
        proved.proof = proved.proof + points > 100 ? 100 : proved.proof + points;
        proved.waited = 0;
        return change(before, proved.proof);
    }

    int decide(int claim) {
        if (!now.hasClaim(claim)) {
            return NO_SUCH;
        }
        if (now.claims.get(claim).state != 0) {
            return NOT_POSSIBLE;
        }
        State before = now.copy();
        Claim decided = now.claims.get(claim);
        decided.state = decided.proof < now.proof ? 2 : 1;
        return change(before, decided.state);
    }

    int withdraw(int claim) {
        if (!now.hasClaim(claim)) {
            return NO_SUCH;
        }
        if (!now.claims.get(claim).stands()) {
            return NOT_POSSIBLE;
        }
        State before = now.copy();
        Claim withdrawn = now.claims.get(claim);
        withdrawn.state = 3;
        return change(before, (int) now.claims.stream().filter(c -> c.lot == withdrawn.lot && c.stands()).count());
    }

    int settle(int lot) {
        State before = now.copy();
        return change(before, now.settle(lot));
    }

    int pass(int days) {
        if (days < 1 || days > 400) {
            return BAD_VALUE;
        }
        if (now.day + days > 9999) {
            return NOT_POSSIBLE;
        }
        State before = now.copy();
        int falls = 0;
        for (int day = 1; day <= days; day++) {
            falls += now.oneDay();
        }
        return change(before, falls);
    }

    int of(int lot, int what) {
        if (!now.hasLot(lot)) {
            return NO_SUCH;
        }
        Lot l = now.lots.get(lot);
        int standing = 0;
        int all = 0;
        int nearest = NONE;
        for (int c = 0; c < now.claims.size(); c++) {
            Claim claim = now.claims.get(c);
            if (claim.lot == lot) {
                all += 1 << c;
                standing += claim.stands() ? 1 << c : 0;
                if (claim.state == 1 && (nearest == NONE || nearest > claim.line)) {
                    nearest = claim.line;
                }
            }
        }
        int[] answers = {l.value, l.state, l.counted, l.since, standing, all, nearest};
        return what < 0 || what > 6 ? BAD_VALUE : answers[what];
    }

    int ofClaim(int claim, int what) {
        if (!now.hasClaim(claim)) {
            return NO_SUCH;
        }
        Claim c = now.claims.get(claim);
        int[] answers = {c.heir, c.lot, c.line, c.proof, c.state, c.waited, c.brought};
        return what < 0 || what > 6 ? BAD_VALUE : answers[what];
    }

    int heir(int heir, int what) {
        if (heir < 0 || heir > 15) {
            return NO_SUCH;
        }
        int[] answers = {now.purses[heir], 0, 0, 0};
        for (int c = 0; c < now.claims.size(); c++) {
            Claim claim = now.claims.get(c);
            if (claim.heir == heir) {
                answers[1] |= 1 << c;
                answers[2] |= claim.stands() ? 1 << c : 0;
                answers[3] |= claim.brought > 0 ? 1 << claim.lot : 0;
            }
        }
        return what < 0 || what > 3 ? BAD_VALUE : answers[what];
    }

    int paid(int rank) {
        return rank < 0 || rank >= now.paid.size() ? NO_SUCH : now.paid.get(rank);
    }

    int count(int what) {
        int[] answers = new int[21];
        answers[0] = now.day;
        answers[1] = now.lots.size();
        answers[2] = now.claims.size();
        for (int l = 0; l < now.lots.size(); l++) {
            Lot lot = now.lots.get(l);
            answers[3 + lot.state] |= 1 << l;
            answers[8] += lot.value;
            answers[9] += lot.state < 2 ? lot.value : 0;
        }
        answers[10] = now.crown;
        for (int purse : now.purses) {
            answers[11] += purse;
        }
        for (int c = 0; c < now.claims.size(); c++) {
            answers[12] |= now.claims.get(c).stands() ? 1 << c : 0;
        }
        answers[13] = (int) now.claims.stream().map(c -> c.heir).distinct().count();
        answers[14] = now.term;
        answers[15] = now.proof;
        answers[16] = now.lapse;
        answers[17] = now.back;
        answers[18] = now.fee;
        answers[19] = pad.length();
        answers[20] = history.size();
        return what < 0 || what > 20 ? BAD_VALUE : answers[what];
    }

    int why(int lot) {
        if (!now.hasLot(lot)) {
            return NO_SUCH;
        }
        if (now.lots.get(lot).state != 1) {
            return 1;
        }
        if (now.claims.stream().anyMatch(c -> c.lot == lot && c.state == 0)) {
            return 2;
        }
        return now.claims.stream().anyMatch(c -> c.lot == lot && c.state == 1) ? 3 : 0;
    }

    int fallsIn(int lot) {
        if (!now.hasLot(lot)) {
            return NO_SUCH;
        }
        if (now.lots.get(lot).state != 1) {
            return NOT_POSSIBLE;
        }
        State later = now.copy();
        for (int days = 1; days <= 700; days++) {
            later.oneDay();
            if (later.lots.get(lot).state == 3) {
                return days;
            }
        }
        return NONE;
    }

    int share(int lot, int heir, int way) {
        if (!now.hasLot(lot) || heir < 0 || heir > 15) {
            return NO_SUCH;
        }
        if (way < 0 || way > 1) {
            return BAD_VALUE;
        }
        if (now.lots.get(lot).state == 2 || now.lots.get(lot).state == 4) {
            return NOT_POSSIBLE;
        }
        State later = now.copy();
        for (Claim claim : later.claims) {
            if (claim.lot == lot && claim.state == 0) {
                claim.state = way == 0 ? 2 : 1;
            }
        }
        later.settle(lot);
        return later.purses[heir] - now.purses[heir];
    }

    int nextFall(int what) {
        if (what < 0 || what > 1) {
            return BAD_VALUE;
        }
        State later = now.copy();
        for (int days = 1; days <= 700; days++) {
            if (later.oneDay() > 0) {
                for (int lot = 0; lot < later.lots.size(); lot++) {
                    if (later.lots.get(lot).state == 3 && now.lots.get(lot).state == 1) {
                        return what == 0 ? lot : days;
                    }
                }
            }
        }
        return NONE;
    }

    int nextLapse(int what) {
        if (what < 0 || what > 1) {
            return BAD_VALUE;
        }
        State later = now.copy();
        for (int days = 1; days <= 200; days++) {
            later.oneDay();
            for (int lot = 0; lot < later.lots.size(); lot++) {
                for (int c = 0; c < later.claims.size(); c++) {
                    if (later.claims.get(c).lot == lot && later.claims.get(c).state == 4 && now.claims.get(c).state == 0) {
                        return what == 0 ? days : c;
                    }
                }
            }
        }
        return NONE;
    }

    int put(long characters) {
        StringBuilder more = new StringBuilder();
        boolean ended = false;
        for (int place = 0; place < 8; place++) {
            int code = (int) (characters >> (8 * place)) & 0xff;
            if (code == 0) {
                ended = true;
            } else if (ended || code < 33 || code > 126) {
                return BAD_VALUE;
            } else {
                more.insert(0, (char) code);
            }
        }
        if (more.length() == 0) {
            return BAD_VALUE;
        }
        if (pad.length() + more.length() > 80) {
            return TOO_MANY;
        }
        pad += more;
        return pad.length();
    }

    int wipe() {
        int length = pad.length();
        pad = "";
        return length;
    }

    int fault() {
        if (TEXT.matcher(pad).matches()) {
            return NONE;
        }
        for (int length = 1; length <= pad.length(); length++) {
            Matcher start = TEXT.matcher(pad.substring(0, length));
            if (!start.matches() && !start.hitEnd()) {
                return length - 1;
            }
        }
        return pad.length();
    }

    int carryOut() {
        if (fault() != NONE) {
            return BAD_TEXT;
        }
        State before = now.copy();
        int done = 0;
        inText = true;
        for (String order : pad.split(";")) {
            if (carryOut(order) < 0) {
                break;
            }
            done++;
        }
        inText = false;
        pad = "";
        return change(before, done);
    }

    private int carryOut(String order) {
        String[] numbers = order.substring(1).split("[@/+]");
        int first = Integer.parseInt(numbers[0]);
        return switch (order.charAt(0)) {
            case 'l' -> lot(first);
            case 'n' -> notice(first);
            case 'c' -> claim(first, Integer.parseInt(numbers[1]), Integer.parseInt(numbers[2]));
            case 'p' -> prove(first, Integer.parseInt(numbers[1]));
            case 'd' -> decide(first);
            case 'w' -> withdraw(first);
            case 's' -> settle(first);
            default -> pass(first);
        };
    }

    int undo() {
        if (history.isEmpty()) {
            return NOT_POSSIBLE;
        }
        now = history.remove(history.size() - 1);
        return history.size();
    }

    int save(int slot) {
        if (slot < 0 || slot > 1) {
            return BAD_VALUE;
        }
        slots[slot] = now.copy();
        return now.lots.size();
    }

    int restore(int slot) {
        if (slot < 0 || slot > 1) {
            return BAD_VALUE;
        }
        if (slots[slot] == null) {
            return NOT_POSSIBLE;
        }
        State before = now;
        now = slots[slot].copy();
        return change(before, now.lots.size());
    }
}
