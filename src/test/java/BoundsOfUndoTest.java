/** The bounds that promises 25 to 27 name. */
public final class BoundsOfUndoTest {
    public static void main(String[] args) {
        States.check();
        promise25EveryChangeRecords();
        promise25NothingElseRecords();
        promise25SixAndSeven();
        promise25AllIsAsBefore();
        promise25KeepsPadAndSlots();
        promise25BehindRefusedCalls();
        promise26Refused();
        promise26SlotsAtTheirEnds();
        promise27Refused();
        promise27RestoresAll();
        promise27TheSlotKeepsIt();
        promise27IsUndone();
        callFive12();
        Due.end();
    }

    private static void records(String name, Due.Steps before, Due.Call change, int want) {
        Due.Steps roomy = x -> {
            before.on(x);
            x.undo();
            x.undo();
            x.lot(1);
        };
        EscheatLots x = Due.after(roomy);
        String known = Due.known(x);
        int changes = x.count(20);
        Due.due("25: " + name, change.on(x), want);
        Due.due("25: " + name + " records a state", x.count(20), changes + 1);
        Due.due("25: " + name + ", undo", x.undo(), changes);
        Due.due("25: " + name + ", it is as before", Due.known(x), known);
        EscheatLots six = Due.after(before);
        String last = Due.known(six);
        six.set(Due.FEE, 5);
        Due.due("25: " + name + ": six states ahead", six.count(20), 6);
        change.on(six);
        Due.due("25: " + name + ": six states behind", six.count(20), 6);
        six.undo();
        six.undo();
        Due.due("25: " + name + ": two undone", Due.known(six), last);
    }

    /** Six changes, with lots and claims for one more of each kind. */
    static void sixChanges(EscheatLots x) {
        Due.carry(x, "l10;l20;l30;n1;c1@0/1;c2@1/1;c3@2/1;p2+60;p1+100;d2");
        x.save(1);
        Due.putText(x, "l4");
        for (int i = 0; i < 5; i++) {
            x.set(Due.FEE, 5);
        }
    }

    static void promise25EveryChangeRecords() {
        records("set", BoundsOfUndoTest::sixChanges, x -> x.set(Due.TERM, 9), 366);
        records("set to the same", BoundsOfUndoTest::sixChanges, x -> x.set(Due.TERM, 366), 366);
        records("set to 0", BoundsOfUndoTest::sixChanges, x -> x.set(Due.BACK, 0), 30);
        records("lot", BoundsOfUndoTest::sixChanges, x -> x.lot(1), 4);
        records("notice", BoundsOfUndoTest::sixChanges, x -> x.notice(0), 2);
        records("claim", BoundsOfUndoTest::sixChanges, x -> x.claim(0, 0, 1), 3);
        records("prove", BoundsOfUndoTest::sixChanges, x -> x.prove(0, 1), 1);
        records("prove of a whole proof", BoundsOfUndoTest::sixChanges, x -> x.prove(1, 1), 100);
        records("decide", BoundsOfUndoTest::sixChanges, x -> x.decide(0), 2);
        records("decide, upheld", BoundsOfUndoTest::sixChanges, x -> x.decide(1), 1);
        records("withdraw", BoundsOfUndoTest::sixChanges, x -> x.withdraw(0), 0);
        records("settle", BoundsOfUndoTest::sixChanges, x -> x.settle(2), 1);
        records("pass", BoundsOfUndoTest::sixChanges, x -> x.pass(1), 0);
        records("carryOut", BoundsOfUndoTest::sixChanges, x -> x.carryOut(), 1);
        records("carryOut of none", x -> {
            sixChanges(x);
            x.wipe();
            Due.putText(x, "l0");
        }, x -> x.carryOut(), 0);
        records("restore", BoundsOfUndoTest::sixChanges, x -> x.restore(1), 3);
        EscheatLots same = Due.after(x -> x.save(0));
        Due.due("25: restore of no lots", same.restore(0), 0);
        Due.due("25: it records a state", same.count(20), 1);
        EscheatLots zero = Due.after(x -> x.set(Due.BACK, 0));
        Due.due("25: a change that returns 0", zero.set(Due.BACK, 0), 0);
        Due.due("25: it records a state", zero.count(20), 2);
    }

    static void promise25NothingElseRecords() {
        Due.Call[] calls = {x -> x.put('l'), x -> x.wipe(), x -> x.fault(), x -> x.save(0), x -> x.save(1), x -> x.of(0, 0),
            x -> x.ofClaim(0, 0), x -> x.heir(0, 0), x -> x.paid(0), x -> x.count(0), x -> x.why(0), x -> x.fallsIn(1),
            x -> x.share(0, 0, 0), x -> x.nextFall(0), x -> x.nextLapse(0)};
        for (int i = 0; i < calls.length; i++) {
            EscheatLots x = new EscheatLots();
            x.lot(1);
            x.lot(2);
            calls[i].on(x);
            Due.due("25: no change, call " + i, x.count(20), 2);
            Due.due("25: no change, call " + i + ", undo", x.undo(), 1);
            Due.due("25: no change, call " + i + ", lots", x.count(1), 1);
        }
    }

    static void promise25SixAndSeven() {
        for (int changes = 0; changes <= 13; changes++) {
            EscheatLots x = new EscheatLots();
            for (int i = 0; i < changes; i++) {
                x.pass(1);
            }
            int kept = Math.min(6, changes);
            Due.due("25: states behind " + changes, x.count(20), kept);
            for (int left = kept - 1; left >= 0; left--) {
                Due.due("25: undo behind " + changes, x.undo(), left);
                Due.due("25: undo behind " + changes + ", states", x.count(20), left);
                Due.due("25: undo behind " + changes + ", the day", x.count(0), changes - kept + left);
            }
            Due.due("25: one undo more behind " + changes, x.undo(), Due.NOT_POSSIBLE);
            Due.due("25: and again", x.undo(), Due.NOT_POSSIBLE);
            Due.due("25: the day stays", x.count(0), changes - kept);
            x.lot(1);
            Due.due("25: it goes on", x.count(20), 1);
            Due.due("25: and can be undone", x.undo(), 0);
        }
        Due.refused("25: undo of a seventh", x -> {
            States.rich(x);
            for (int i = 0; i < 6; i++) {
                x.undo();
            }
        }, x -> x.undo(), Due.NOT_POSSIBLE);
    }

    static void promise25AllIsAsBefore() {
        String[] known = new String[6];
        String[] texts = {"l9;l8;l7;n0;n1", "c1@0/1;c2@0/1;c3@1/2;p0+60;p1+60", "d0;d1;t5", "s0;t10", "c4@2/3;t300",
            "c5@2/3;t61;w4"};
        for (int i = 0; i < 6; i++) {
            int done = i;
            known[i] = Due.known(Due.after(x -> {
                for (int j = 0; j < done; j++) {
                    Due.carry(x, texts[j]);
                }
            }));
            Due.due("25: something is different, " + i, i > 0 && known[i].equals(known[i - 1]) ? 1 : 0, 0);
        }
        Due.Steps all = y -> {
            for (String text : texts) {
                Due.carry(y, text);
            }
        };
        for (int left = 5; left >= 0; left--) {
            EscheatLots y = Due.after(all);
            for (int i = 5; i >= left; i--) {
                Due.due("25: undo", y.undo(), i);
            }
            Due.due("25: all is as it was, " + left, Due.known(y), known[left]);
        }
        EscheatLots y = Due.after(all);
        for (int i = 0; i < 6; i++) {
            y.undo();
        }
        all.on(y);
        Due.due("25: undone and done again", Due.known(y), Due.known(Due.after(all)));
    }

    static void promise25KeepsPadAndSlots() {
        EscheatLots x = new EscheatLots();
        x.lot(1);
        x.save(0);
        x.lot(2);
        x.save(1);
        Due.putText(x, times80());
        x.undo();
        x.undo();
        Due.due("25: a full pad stays", x.count(19), 80);
        Due.due("25: its text, too", x.fault(), Due.NONE);
        Due.due("25: it is carried out", x.carryOut(), 27);
        Due.due("25: slot 1 stays", x.restore(1), 2);
        Due.due("25: slot 0 stays", x.restore(0), 1);
        EscheatLots y = new EscheatLots();
        y.lot(1);
        y.save(0);
        y.undo();
        Due.due("25: what was saved is not unsaved", y.restore(0), 1);
        EscheatLots z = new EscheatLots();
        z.lot(1);
        z.put('l');
        z.undo();
        z.wipe();
        Due.due("25: the pad is not brought back", z.count(19), 0);
        z.lot(1);
        Due.putText(z, "t1");
        z.carryOut();
        z.undo();
        Due.due("25: nor by the undoing of a text", z.count(19), 0);
    }

    private static String times80() {
        return "t1" + ";t1".repeat(26);
    }

    /** A refused call records nothing: what is undone is the latest change, not it. */
    static void promise25BehindRefusedCalls() {
        Due.Call[] refused = {x -> x.set(0, 0), x -> x.lot(0), x -> x.notice(9), x -> x.claim(0, 9, 1), x -> x.prove(9, 1),
            x -> x.decide(9), x -> x.withdraw(9), x -> x.settle(0), x -> x.pass(0), x -> x.carryOut(), x -> x.restore(0),
            x -> x.restore(2), x -> x.save(2), x -> x.put(0)};
        for (int i = 0; i < refused.length; i++) {
            for (int changes = 0; changes <= 8; changes++) {
                EscheatLots x = new EscheatLots();
                for (int j = 0; j < changes; j++) {
                    x.lot(1 + j);
                }
                Due.due("25: refused call " + i, refused[i].on(x) < 0 ? 1 : 0, 1);
                int kept = Math.min(6, changes);
                Due.due("25: behind refused call " + i, x.count(20), kept);
                Due.due("25: undo behind refused call " + i, x.undo(), kept == 0 ? Due.NOT_POSSIBLE : kept - 1);
                Due.due("25: lots behind refused call " + i, x.count(1), Math.max(0, changes - 1));
            }
        }
    }

    // ---- promise 26

    static void promise26Refused() {
        for (int slot : new int[] {-1, 2, 3, -2, Integer.MIN_VALUE, Integer.MAX_VALUE}) {
            Due.refused("26: save(" + slot + ")", States::rich, x -> x.save(slot), Due.BAD_VALUE);
            Due.refused("26: save(" + slot + ") of nothing", States::nothing, x -> x.save(slot), Due.BAD_VALUE);
        }
    }

    static void promise26SlotsAtTheirEnds() {
        for (int slot = 0; slot <= 1; slot++) {
            EscheatLots x = new EscheatLots();
            Due.due("26: save(" + slot + ") of nothing", x.save(slot), 0);
            Due.due("26: the other one is empty", x.restore(1 - slot), Due.NOT_POSSIBLE);
            Due.due("26: it records nothing", x.count(20), 0);
            x.lot(9);
            Due.due("26: no lots are saved", x.restore(slot), 0);
            Due.due("26: no lots are there", x.count(1), 0);
            String known = Due.known(Due.after(States::full));
            EscheatLots y = Due.after(States::full);
            Due.due("26: save(" + slot + ") of twelve lots", y.save(slot), 12);
            y.undo();
            y.undo();
            Due.due("26: twelve lots are restored", y.restore(slot), 12);
            Due.due("26: all is restored", Due.known(y), known);
        }
        EscheatLots x = new EscheatLots();
        for (int lots = 1; lots <= 5; lots++) {
            x.lot(lots);
            Due.due("26: it overwrites", x.save(0), lots);
        }
        x.undo();
        x.undo();
        Due.due("26: what was saved last", x.restore(0), 5);
        Due.due("26: the other one is empty", x.restore(1), Due.NOT_POSSIBLE);
    }

    // ---- promise 27

    static void promise27Refused() {
        for (int slot : new int[] {-1, 2, 3, -2, Integer.MIN_VALUE, Integer.MAX_VALUE}) {
            Due.refused("27: restore(" + slot + ")", States::rich, x -> x.restore(slot), Due.BAD_VALUE);
            Due.refused("27: restore(" + slot + ") of nothing", States::nothing, x -> x.restore(slot), Due.BAD_VALUE);
        }
        Due.refused("27: slot 0 is empty", States::full, x -> x.restore(0), Due.NOT_POSSIBLE);
        Due.refused("27: slot 1 is empty", States::lastDay, x -> x.restore(1), Due.NOT_POSSIBLE);
    }

    static void promise27RestoresAll() {
        Due.Steps[] states = {States::nothing, States::rich, States::full, States::lastDay};
        for (int from = 0; from < states.length; from++) {
            String known = Due.known(Due.after(states[from]));
            EscheatLots x = Due.after(states[from]);
            int lots = x.save(0);
            Due.carry(x, "l3;c9@0/4;t1");
            x.set(Due.TERM, 77);
            x.set(Due.PROOF, 77);
            x.set(Due.LAPSE, 77);
            x.set(Due.BACK, 77);
            x.set(Due.FEE, 7);
            Due.putText(x, "l66");
            Due.due("27: restore of state " + from, x.restore(0), lots);
            Due.due("27: the pad stays, " + from, x.count(19), 3);
            Due.due("27: states, " + from, x.count(20), 6);
            Due.due("27: all is restored, " + from, Due.known(x), known);
            x.undo();
            Due.due("27: it is undone, " + from, x.count(18), 7);
        }
    }

    static void promise27TheSlotKeepsIt() {
        String known = Due.known(Due.after(States::rich));
        EscheatLots x = Due.after(States::rich);
        x.save(0);
        for (int time = 0; time < 8; time++) {
            Due.carry(x, "t9;d3;s0;l8");
            Due.due("27: lots, time " + time, x.count(1), States.RICH_LOTS + 1);
            Due.due("27: restore, time " + time, x.restore(0), States.RICH_LOTS);
        }
        Due.due("27: it is the same the eighth time", Due.known(x), known);
        Due.carry(x, "t9;d3;s0;l8");
        Due.due("27: it can be saved over", x.save(0), States.RICH_LOTS + 1);
        Due.due("27: that is restored then", x.restore(0), States.RICH_LOTS + 1);
    }

    static void promise27IsUndone() {
        EscheatLots x = new EscheatLots();
        x.save(0);
        x.lot(1);
        x.lot(2);
        Due.due("27: restore", x.restore(0), 0);
        Due.due("27: the history is not saved", x.count(20), 3);
        Due.due("27: restore twice", x.restore(0), 0);
        Due.due("27: undo of the second", x.undo(), 3);
        Due.due("27: no lots", x.count(1), 0);
        Due.due("27: undo of the first", x.undo(), 2);
        Due.due("27: both lots", x.count(1), 2);
        Due.due("27: undo of the lot", x.undo(), 1);
        Due.due("27: one lot", x.count(1), 1);
        EscheatLots six = new EscheatLots();
        six.save(0);
        for (int i = 0; i < 6; i++) {
            six.lot(1);
        }
        six.restore(0);
        Due.due("27: the oldest state is dropped for it", six.count(20), 6);
        for (int left = 5; left >= 0; left--) {
            Due.due("27: undo", six.undo(), left);
        }
        Due.due("27: the oldest state that is left", six.count(1), 1);
    }

    /** The last call for which there is a promise. */
    static void callFive12() {
        EscheatLots x = new EscheatLots();
        for (int call = 1; call <= 511; call++) {
            Due.due("call " + call, x.set(Due.TERM, call % 400 + 1), call == 1 ? 366 : (call - 1) % 400 + 1);
        }
        Due.due("call 512", x.undo(), 5);
    }
}
