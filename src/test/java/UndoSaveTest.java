/** Promises 25 to 27: undo, saving. */
public final class UndoSaveTest {
    public static void main(String[] args) {
        promise25Undo();
        promise25SixStates();
        promise25AnewBehindUndo();
        promise25NothingDifferent();
        promise25Kept();
        promise25NoChanges();
        promise26Save();
        promise26Errors();
        promise27Restore();
        promise27OtherLotsAndClaims();
        promise27IsAChange();
        promise27Settings();
        promise27Errors();
        Due.end();
    }

    /** The first of four changes, and a refused call behind them. */
    static Due.Steps changes(int howMany) {
        Due.Steps[] four = {
            x -> x.set(Due.TERM, 2),
            x -> Due.carry(x, "l10;n0;c1@0/1;c2@0/1;p0+80;d0;p1+90;d1"),
            x -> x.settle(0),
            x -> Due.carry(x, "l10;n1;t5"),
        };
        return x -> {
            for (int i = 0; i < howMany; i++) {
                four[i].on(x);
            }
            x.notice(1);
        };
    }

    static void promise25Undo() {
        EscheatLots nothing = new EscheatLots();
        Due.due("25: nothing to undo", nothing.undo(), Due.NOT_POSSIBLE);
        Due.due("25: an error is no change", Due.after(changes(4)).count(20), 4);
        for (int left = 3; left >= 0; left--) {
            EscheatLots x = Due.after(changes(4));
            for (int i = 3; i >= left; i--) {
                Due.due("25: undo()", x.undo(), i);
            }
            Due.due("25: state " + left, Due.known(x), Due.known(Due.after(changes(left))));
        }
        EscheatLots x = Due.after(changes(4));
        for (int i = 0; i < 4; i++) {
            x.undo();
        }
        Due.due("25: nothing is left", x.undo(), Due.NOT_POSSIBLE);
        Due.due("25: it changes nothing", Due.known(x), Due.known(nothing));
    }

    static void promise25SixStates() {
        for (int passes = 1; passes <= 15; passes++) {
            EscheatLots x = new EscheatLots();
            for (int i = 0; i < passes; i++) {
                x.pass(1);
            }
            int kept = Math.min(6, passes);
            Due.due("25: changes", x.count(20), kept);
            for (int undone = 1; undone <= kept; undone++) {
                Due.due("25: undo()", x.undo(), kept - undone);
                Due.due("25: the day", x.count(0), passes - undone);
            }
            Due.due("25: the oldest is dropped", x.undo(), Due.NOT_POSSIBLE);
            Due.due("25: the day", x.count(0), passes - kept);
        }
    }

    static void promise25AnewBehindUndo() {
        EscheatLots x = new EscheatLots();
        for (int i = 0; i < 8; i++) {
            x.pass(1);
        }
        x.undo();
        x.undo();
        x.pass(100);
        Due.due("25: a change behind two undone", x.count(20), 5);
        Due.due("25: it is undone first", x.undo(), 4);
        Due.due("25: the day", x.count(0), 6);
        x.undo();
        Due.due("25: then the one ahead of those", x.count(0), 5);
        for (int i = 0; i < 9; i++) {
            x.lot(1 + i);
        }
        for (int left = 5; left >= 0; left--) {
            x.undo();
            Due.due("25: lots", x.count(1), left + 3);
        }
        Due.due("25: six again", x.undo(), Due.NOT_POSSIBLE);
    }

    static void promise25NothingDifferent() {
        EscheatLots x = new EscheatLots();
        x.set(Due.FEE, 5);
        Due.due("25: a change that makes nothing different", x.count(20), 1);
        x.save(0);
        x.restore(0);
        Due.due("25: nor does this one", x.count(20), 2);
        x.lot(7);
        x.claim(1, 0, 1);
        x.prove(0, 100);
        x.prove(0, 100);
        Due.due("25: nor the second proof", x.count(20), 6);
        Due.due("25: undo()", x.undo(), 5);
        Due.due("25: the first proof is there", x.ofClaim(0, 3), 100);
    }

    static void promise25Kept() {
        EscheatLots x = new EscheatLots();
        x.lot(10);
        x.lot(20);
        x.save(1);
        x.put(Due.packed("l1;"));
        x.pass(3);
        x.put(Due.packed("l2"));
        x.undo();
        Due.due("25: the pad stays", x.count(19), 5);
        Due.due("25: the pad stays", x.fault(), Due.NONE);
        x.undo();
        x.undo();
        Due.due("25: no lot", x.count(1), 0);
        Due.due("25: the slot stays", x.restore(1), 2);
        Due.due("25: the day of the slot", x.count(0), 0);
    }

    static void promise25NoChanges() {
        EscheatLots x = new EscheatLots();
        x.save(0);
        x.put('l');
        x.wipe();
        x.fault();
        x.carryOut();
        x.undo();
        x.restore(1);
        x.lot(0);
        Due.due("25: no changes", x.count(20), 0);
    }

    static void promise26Save() {
        EscheatLots x = new EscheatLots();
        Due.due("26: save(0)", x.save(0), 0);
        x.lot(10);
        x.lot(20);
        Due.due("26: save(1)", x.save(1), 2);
        Due.due("26: it is no change", x.count(20), 2);
        x.lot(30);
        Due.due("26: the slots are two, 0", x.restore(0), 0);
        Due.due("26: the slots are two, 1", x.restore(1), 2);
        x.notice(0);
        Due.due("26: it overwrites", x.save(0), 2);
        x.restore(1);
        Due.due("26: the other slot is as it was", x.count(4), 0);
        x.restore(0);
        Due.due("26: it has overwritten", x.count(4), 1);
        Due.changesNothing("26: save changes nothing else", AnswersTest::atWork, y -> {
            y.save(0);
            y.save(1);
        });
    }

    static void promise26Errors() {
        Due.changesNothing("26: save with errors", x -> x.lot(3), x -> {
            Due.due("26: save(2)", x.save(2), Due.BAD_VALUE);
            for (int far : Due.FAR) {
                Due.due("26: save(" + far + ")", x.save(far), Due.BAD_VALUE);
            }
            Due.due("26: nothing was saved", x.restore(0), Due.NOT_POSSIBLE);
            Due.due("26: nothing was saved", x.restore(1), Due.NOT_POSSIBLE);
        });
    }

    static void promise27Restore() {
        EscheatLots x = Due.after(AnswersTest::atWork);
        String saved = Due.known(x);
        x.save(1);
        Due.carry(x, "t200;l5;c9@5/1;n0;d3");
        Due.putText(x, "l77");
        Due.due("27: restore(1)", x.restore(1), 5);
        Due.due("27: all is as it was saved", Due.known(x), saved);
        Due.due("27: the pad stays", x.count(19), 3);
        x.pass(1);
        x.settle(1);
        Due.due("27: the slot keeps it", x.restore(1), 5);
        Due.due("27: the slot keeps it", x.count(0), 8);
    }

    /** All that tells two offices apart is restored, also where both have as many lots, claims and heirs. */
    static void promise27OtherLotsAndClaims() {
        String first = "l10;c1@0/1;p0+60;d0;s0;l20;c2@1/2;c3@1/2";
        String other = "t2;l30;l40;c4@1/3;p0+70;d0;s1;c5@0/4;p1+2;t3;c6@0/5;n0";
        String wanted = Due.known(Due.after(x -> Due.carry(x, first)));
        Due.Steps both = x -> {
            x.save(0);
            Due.carry(x, first);
            x.save(1);
            x.restore(0);
            Due.carry(x, other);
        };
        Due.due("27: lots, claims and heirs are others", Due.known(Due.after(both)).equals(wanted) ? 1 : 0, 0);
        EscheatLots x = Due.after(both);
        x.restore(1);
        Due.due("27: all of it is restored", Due.known(x), wanted);
        EscheatLots y = Due.after(both);
        y.restore(1);
        y.undo();
        y.undo();
        y.undo();
        Due.due("25: all of it is undone", Due.known(y), wanted);
    }

    static void promise27IsAChange() {
        EscheatLots x = new EscheatLots();
        x.lot(10);
        x.save(0);
        x.lot(20);
        x.lot(30);
        Due.due("27: restore(0)", x.restore(0), 1);
        Due.due("27: the history is not restored", x.count(20), 4);
        Due.due("27: undo()", x.undo(), 3);
        Due.due("27: it is undone", x.count(1), 3);
        Due.due("27: undo()", x.undo(), 2);
        Due.due("27: the change ahead of it", x.count(1), 2);
        Due.due("27: restore(0) again", x.restore(0), 1);
        Due.isOneChange("27: restore", y -> {
            y.lot(3);
            y.save(0);
            y.pass(4);
        }, y -> y.restore(0));
    }

    static void promise27Settings() {
        EscheatLots x = new EscheatLots();
        x.set(Due.TERM, 17);
        x.save(0);
        x.set(Due.TERM, 18);
        x.set(Due.LAPSE, 19);
        x.restore(0);
        Due.due("27: settings are restored", x.count(14), 17);
        Due.due("27: settings are restored", x.count(16), 90);
    }

    static void promise27Errors() {
        Due.changesNothing("27: restore with errors", x -> {
            x.lot(3);
            x.save(1);
            x.lot(4);
        }, x -> {
            Due.due("27: restore(0)", x.restore(0), Due.NOT_POSSIBLE);
            Due.due("27: restore(2)", x.restore(2), Due.BAD_VALUE);
            for (int far : Due.FAR) {
                Due.due("27: restore(" + far + ")", x.restore(far), Due.BAD_VALUE);
            }
        });
    }
}
