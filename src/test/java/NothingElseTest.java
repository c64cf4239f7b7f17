import java.util.ArrayList;
import java.util.List;

/**
 * Promises 2 to 10 and 21 to 27: a call that brings no error changes what the document tells of it, and nothing else.
 * All calls are made on States.rich(): lots 0 to 4 are kept, noticed, given, fallen and returned; claims 0 to 6 are of
 * the heirs 1, 2, 7, 3, 4, 5, 6 and are settled, settled, lapsed, open, upheld, refused and withdrawn.
 */
public final class NothingElseTest {
    public static void main(String[] args) {
        States.check();
        promises2To4();
        promises5To8();
        promise9();
        promise10();
        promises21To27();
        questions();
        Due.end();
    }

    /** Every answer that tells what there is, each with its question, but for the history. */
    private static List<String> answers(EscheatLots x) {
        List<String> all = new ArrayList<>();
        for (int what = 0; what <= 19; what++) {
            all.add("count " + what + ": " + x.count(what));
        }
        for (int lot = 0; lot < 6; lot++) {
            for (int what = 0; what <= 6; what++) {
                all.add("of " + lot + " " + what + ": " + x.of(lot, what));
            }
        }
        for (int claim = 0; claim < 8; claim++) {
            for (int what = 0; what <= 6; what++) {
                all.add("ofClaim " + claim + " " + what + ": " + x.ofClaim(claim, what));
            }
        }
        for (int heir = 0; heir < 16; heir++) {
            for (int what = 0; what <= 3; what++) {
                all.add("heir " + heir + " " + what + ": " + x.heir(heir, what));
            }
        }
        for (int rank = 0; rank < 5; rank++) {
            all.add("paid " + rank + ": " + x.paid(rank));
        }
        return all;
    }

    private static String difference(EscheatLots before, EscheatLots behind) {
        List<String> was = answers(before);
        List<String> is = answers(behind);
        List<String> other = new ArrayList<>();
        for (int i = 0; i < was.size(); i++) {
            if (!is.get(i).equals(was.get(i))) {
                other.add(is.get(i));
            }
        }
        return String.join(", ", other);
    }

    /** Nothing but the wanted answers is another one behind a call; pad and slots are as they were. */
    private static void changes(String name, Due.Steps before, Due.Call call, int answer, String wanted) {
        EscheatLots x = Due.after(before);
        Due.due(name, call.on(x), answer);
        Due.due(name + ", what is different", difference(Due.after(before), x), wanted);
    }

    private static void keepsPad(String name, Due.Steps before, Due.Call call) {
        EscheatLots is = Due.after(before);
        call.on(is);
        EscheatLots as = Due.after(before);
        call.on(as);
        as.wipe();
        Due.putText(as, "t3;l77;w4");
        Due.due(name + ", the pad carried out", is.carryOut(), as.carryOut());
        Due.due(name + ", what the pad brings", Due.known(is), Due.known(as));
    }

    private static void keepsSlot(String name, Due.Steps before, Due.Call call, int slot) {
        EscheatLots is = Due.after(before);
        call.on(is);
        EscheatLots as = Due.after(before);
        Due.due(name + ", restore(" + slot + ")", is.restore(slot), as.restore(slot));
        Due.due(name + ", what was saved in " + slot, Due.known(is), Due.known(as));
    }

    private static void changesOnly(String name, Due.Call call, int answer, String wanted) {
        changes(name, States::rich, call, answer, wanted);
        keepsPad(name, States::rich, call);
        keepsSlot(name, States::rich, call, 0);
        keepsSlot(name, States::rich, call, 1);
    }

    static void promises2To4() {
        changesOnly("2: set TERM", x -> x.set(Due.TERM, 1), 2, "count 14: 1");
        changesOnly("2: set PROOF", x -> x.set(Due.PROOF, 1), 60, "count 15: 1");
        changesOnly("2: set LAPSE", x -> x.set(Due.LAPSE, 1), 90, "count 16: 1");
        changesOnly("2: set BACK", x -> x.set(Due.BACK, 0), 29, "count 17: 0");
        changesOnly("2: set FEE", x -> x.set(Due.FEE, 50), 5, "count 18: 50");
        changesOnly("3: lot", x -> x.lot(600), 5, "count 1: 6, count 3: 33, count 8: 2100, count 9: 900, "
            + "of 5 0: 600, of 5 1: 0, of 5 2: 0, of 5 3: 0, of 5 4: 0, of 5 5: 0, of 5 6: -6");
        changesOnly("4: notice", x -> x.notice(0), 2, "count 3: 0, count 4: 3, of 0 1: 1");
    }

    static void promises5To8() {
        changesOnly("5: claim", x -> x.claim(9, 1, 5), 7, "count 2: 8, count 12: 152, count 13: 8, of 1 4: 128, "
            + "of 1 5: 128, ofClaim 7 0: 9, ofClaim 7 1: 1, ofClaim 7 2: 5, ofClaim 7 3: 0, ofClaim 7 4: 0, "
            + "ofClaim 7 5: 0, ofClaim 7 6: 0, heir 9 1: 128, heir 9 2: 128");
        changesOnly("5: claim to a fallen lot", x -> x.claim(1, 3, 1), 7, "count 2: 8, count 12: 152, of 3 4: 128, "
            + "of 3 5: 128, ofClaim 7 0: 1, ofClaim 7 1: 3, ofClaim 7 2: 1, ofClaim 7 3: 0, ofClaim 7 4: 0, "
            + "ofClaim 7 5: 0, ofClaim 7 6: 0, heir 1 1: 129, heir 1 2: 128");
        Due.Steps waited = x -> {
            States.rich(x);
            x.pass(5);
        };
        changesOnly("6: prove", x -> x.prove(3, 7), 7, "ofClaim 3 3: 7");
        changes("6: prove behind 5 days", waited, x -> x.prove(3, 100), 100, "ofClaim 3 3: 100, ofClaim 3 5: 0");
        changesOnly("7: decide, refused", x -> x.decide(3), 2, "count 12: 16, of 0 4: 16, ofClaim 3 4: 2, heir 3 2: 0");
        changes("7: decide, refused behind 5 days", waited, x -> x.decide(3), 2,
            "count 12: 16, of 0 4: 16, ofClaim 3 4: 2, heir 3 2: 0");
        changes("7: decide, upheld", x -> {
            waited.on(x);
            x.prove(3, 60);
            x.pass(2);
        }, x -> x.decide(3), 1, "of 0 6: 1, ofClaim 3 4: 1");
        changesOnly("8: withdraw an open one", x -> x.withdraw(3), 1,
            "count 12: 16, of 0 4: 16, ofClaim 3 4: 3, heir 3 2: 0");
        changesOnly("8: withdraw an upheld one", x -> x.withdraw(4), 1,
            "count 12: 8, of 0 4: 8, of 0 6: -6, ofClaim 4 4: 3, heir 4 2: 0");
        changes("8: withdraw behind 5 days", waited, x -> x.withdraw(3), 1,
            "count 12: 16, of 0 4: 16, ofClaim 3 4: 3, heir 3 2: 0");
    }

    static void promise9() {
        Due.Steps kept = x -> {
            States.rich(x);
            x.withdraw(3);
        };
        changes("9: settle a kept lot", kept, x -> x.settle(0), 1, "count 3: 0, count 5: 5, count 9: 200, "
            + "count 11: 875, count 12: 0, of 0 1: 2, of 0 4: 0, of 0 6: -6, ofClaim 4 4: 5, ofClaim 4 6: 100, "
            + "heir 4 0: 100, heir 4 2: 0, heir 4 3: 1, paid 2: 4");
        keepsPad("9: settle a kept lot", kept, x -> x.settle(0));
        keepsSlot("9: settle a kept lot", kept, x -> x.settle(0), 0);
        keepsSlot("9: settle a kept lot", kept, x -> x.settle(0), 1);
        Due.Steps noticed = x -> {
            kept.on(x);
            x.pass(1);
            x.claim(1, 1, 3);
            Due.uphold(x, 7);
        };
        changes("9: settle a noticed lot", noticed, x -> x.settle(1), 1, "count 4: 0, count 5: 6, count 9: 100, "
            + "count 11: 975, count 12: 16, of 1 1: 2, of 1 4: 0, of 1 6: -6, ofClaim 7 4: 5, ofClaim 7 6: 200, "
            + "heir 1 0: 500, heir 1 2: 0, heir 1 3: 6");
        Due.Steps fallen = x -> {
            States.rich(x);
            x.claim(0, 3, 2);
            Due.uphold(x, 7);
        };
        changes("9: settle a fallen lot", fallen, x -> x.settle(3), 1, "count 6: 0, count 7: 24, count 10: 45, "
            + "count 11: 1155, count 12: 24, of 3 1: 4, of 3 4: 0, of 3 6: -6, ofClaim 7 4: 5, ofClaim 7 6: 380, "
            + "heir 0 0: 380, heir 0 2: 0, heir 0 3: 8, paid 2: 0");
    }

    static void promise10() {
        changesOnly("10: pass a day", x -> x.pass(1), 0, "count 0: 4, of 1 2: 1, of 3 3: 2, ofClaim 3 5: 1");
        changesOnly("10: pass two days", x -> x.pass(2), 1, "count 0: 5, count 4: 0, count 6: 10, count 9: 100, "
            + "count 10: 625, of 1 1: 3, of 1 2: 2, of 3 3: 3, ofClaim 3 5: 2");
        changesOnly("10: pass ninety days", x -> x.pass(90), 1, "count 0: 93, count 4: 0, count 6: 10, count 9: 100, "
            + "count 10: 625, count 12: 16, of 0 4: 16, of 1 1: 3, of 1 2: 2, of 1 3: 88, of 3 3: 91, ofClaim 3 4: 4, "
            + "ofClaim 3 5: 90, heir 3 2: 0");
    }

    static void promises21To27() {
        changes("21: put", States::rich, x -> x.put('7'), 10, "count 19: 10");
        keepsSlot("21: put", States::rich, x -> x.put('7'), 0);
        keepsSlot("21: put", States::rich, x -> x.put('7'), 1);
        changes("22: wipe", States::rich, EscheatLots::wipe, 9, "count 19: 0");
        keepsSlot("22: wipe", States::rich, EscheatLots::wipe, 0);
        keepsSlot("22: wipe", States::rich, EscheatLots::wipe, 1);
        changesOnly("23: fault", EscheatLots::fault, Due.NONE, "");
        changes("24: carryOut", x -> {
            States.rich(x);
            Due.putText(x, ";n9;l8");
        }, EscheatLots::carryOut, 3, "count 0: 6, count 1: 6, count 3: 33, count 4: 0, count 6: 10, count 8: 1577, "
            + "count 9: 177, count 10: 625, count 12: 8, count 19: 0, of 0 4: 8, of 0 6: -6, of 1 1: 3, of 1 2: 2, "
            + "of 1 3: 1, of 3 3: 4, of 5 0: 77, of 5 1: 0, of 5 2: 0, of 5 3: 0, of 5 4: 0, of 5 5: 0, of 5 6: -6, "
            + "ofClaim 3 5: 3, ofClaim 4 4: 3, heir 4 2: 0");
        keepsSlot("24: carryOut", States::rich, EscheatLots::carryOut, 0);
        keepsSlot("24: carryOut", States::rich, EscheatLots::carryOut, 1);
        changesOnly("25: undo", EscheatLots::undo, 5, "count 17: 30");
        for (int slot = 0; slot <= 1; slot++) {
            int which = slot;
            changes("26: save(" + slot + ")", States::rich, x -> x.save(which), 5, "");
            keepsPad("26: save(" + slot + ")", States::rich, x -> x.save(which));
            keepsSlot("26: save(" + slot + ")", States::rich, x -> x.save(which), 1 - slot);
        }
        changesOnly("27: restore(1)", x -> x.restore(1), 5, "count 17: 30");
        changesOnly("27: restore(0)", x -> x.restore(0), 5, "count 0: 2, count 2: 1, count 3: 3, count 4: 0, "
            + "count 6: 24, count 7: 0, count 10: 900, count 11: 300, count 12: 0, count 13: 1, count 17: 30, "
            + "of 0 4: 0, of 0 5: 0, of 0 6: -6, of 1 1: 0, of 3 3: 0, of 4 1: 3, of 4 5: 0"
            + noClaims(1, 7) + withoutClaims() + ", paid 1: -1");
    }

    /** What is asked of claims that there are not is answered by an error. */
    private static String noClaims(int from, int to) {
        StringBuilder all = new StringBuilder();
        for (int claim = from; claim < to; claim++) {
            for (int what = 0; what <= 6; what++) {
                all.append(", ofClaim ").append(claim).append(' ').append(what).append(": -1");
            }
        }
        return all.toString();
    }

    /** The heirs of rich() without the claims that came behind slot 0: heir 2 got a lot, 3 and 4 stand. */
    private static String withoutClaims() {
        return ", heir 2 0: 0, heir 2 1: 0, heir 2 3: 0, heir 3 1: 0, heir 3 2: 0, heir 4 1: 0, heir 4 2: 0"
            + ", heir 5 1: 0, heir 6 1: 0, heir 7 1: 0";
    }

    /** Questions change nothing at all, the refused ones neither. */
    static void questions() {
        Due.Call[] calls = {x -> x.of(3, 3), x -> x.of(1, 6), x -> x.ofClaim(3, 5), x -> x.heir(1, 0), x -> x.paid(1),
            x -> x.count(10), x -> x.why(1), x -> x.fallsIn(1), x -> x.share(0, 4, 0), x -> x.share(0, 3, 1),
            x -> x.share(3, 1, 1), x -> x.nextFall(0), x -> x.nextFall(1), x -> x.nextLapse(0), x -> x.nextLapse(1),
            x -> x.of(5, 0), x -> x.ofClaim(7, 0), x -> x.heir(16, 0), x -> x.paid(2), x -> x.count(21), x -> x.why(5),
            x -> x.fallsIn(0), x -> x.share(2, 1, 0), x -> x.nextFall(2), x -> x.nextLapse(2)};
        int[] answers = {1, Due.NONE, 0, 300, 2, 425, 0, 2, 100, 100, 0, 1, 2, 90, 3, Due.NO_SUCH, Due.NO_SUCH, Due.NO_SUCH,
            Due.NO_SUCH, Due.BAD_VALUE, Due.NO_SUCH, Due.NOT_POSSIBLE, Due.NOT_POSSIBLE, Due.BAD_VALUE, Due.BAD_VALUE};
        for (int i = 0; i < calls.length; i++) {
            String name = "11 to 20: question " + i;
            Due.due(name, calls[i].on(Due.after(States::rich)), answers[i]);
            Due.changesNothing(name, States::rich, calls[i]::on);
            keepsPad(name, States::rich, calls[i]);
            keepsSlot(name, States::rich, calls[i], 0);
            keepsSlot(name, States::rich, calls[i], 1);
        }
    }
}
