/** Promises 1 to 10: a new object, and the changes. */
public final class ChangesTest {
    private static final int[] LEAST = {1, 1, 1, 0, 0};
    private static final int[] MOST = {400, 100, 200, 400, 50};
    private static final int[] AT_FIRST = {366, 60, 90, 30, 5};

    public static void main(String[] args) {
        promise1NewObject();
        promise2Set();
        promise2SetErrors();
        promise3Lot();
        promise3LotLimit();
        promise4Notice();
        promise4NoticeErrors();
        promise5Claim();
        promise5ClaimOfALotByItsState();
        promise5ClaimAgain();
        promise5ClaimErrors();
        promise5ClaimLimit();
        promise6Prove();
        promise6ProveErrors();
        promise7Decide();
        promise7DecideErrors();
        promise8Withdraw();
        promise8WithdrawErrors();
        promise9SettleKeptAndNoticed();
        promise9SettleNearestLine();
        promise9SettleLeftOver();
        promise9SettleFallen();
        promise9SettleErrors();
        promise10Pass();
        promise10CountsWhileNoClaimStands();
        promise10Lapse();
        promise10LapseAndFallOfOneDay();
        promise10TwelveLotsAndThirtyClaims();
        promise10SinceTheFall();
        promise10PassErrors();
        promise10LastDay();
        Due.end();
    }

    static void promise1NewObject() {
        EscheatLots x = new EscheatLots();
        for (int what = 0; what <= 20; what++) {
            int want = what >= 14 && what <= 18 ? AT_FIRST[what - 14] : 0;
            Due.due("1: count(" + what + ")", x.count(what), want);
        }
        Due.due("1: of(0, 0)", x.of(0, 0), Due.NO_SUCH);
        Due.due("1: ofClaim(0, 0)", x.ofClaim(0, 0), Due.NO_SUCH);
        Due.due("1: paid(0)", x.paid(0), Due.NO_SUCH);
        Due.due("1: undo()", x.undo(), Due.NOT_POSSIBLE);
        Due.due("1: restore(0)", x.restore(0), Due.NOT_POSSIBLE);
        Due.due("1: restore(1)", x.restore(1), Due.NOT_POSSIBLE);
        for (int heir = 0; heir <= 15; heir++) {
            for (int what = 0; what <= 3; what++) {
                Due.due("1: heir(" + heir + ", " + what + ")", x.heir(heir, what), 0);
            }
        }
        EscheatLots other = new EscheatLots();
        other.lot(5);
        other.set(0, 1);
        other.save(0);
        Due.due("1: another object's lot", x.count(1), 0);
        Due.due("1: another object's setting", x.count(14), 366);
        Due.due("1: another object's slot", x.restore(0), Due.NOT_POSSIBLE);
    }

    static void promise2Set() {
        for (int setting = 0; setting < 5; setting++) {
            EscheatLots x = new EscheatLots();
            String name = "2: set(" + setting + ", ..)";
            Due.due(name, x.set(setting, LEAST[setting]), AT_FIRST[setting]);
            Due.due(name, x.set(setting, MOST[setting]), LEAST[setting]);
            Due.due(name, x.set(setting, LEAST[setting] + 1), MOST[setting]);
            for (int other = 0; other < 5; other++) {
                Due.due(name + " and setting " + other, x.count(14 + other),
                    other == setting ? LEAST[setting] + 1 : AT_FIRST[other]);
            }
            Due.due(name + " to the same", x.set(setting, LEAST[setting] + 1), LEAST[setting] + 1);
            Due.due(name + ": changes", x.count(20), 4);
            int which = setting;
            Due.isOneChange(name, y -> y.lot(3), y -> y.set(which, LEAST[which]));
        }
    }

    static void promise2SetErrors() {
        Due.changesNothing("2: set with errors", x -> x.set(1, 5), x -> {
            for (int setting = 0; setting < 5; setting++) {
                Due.due("2: set under the range", x.set(setting, LEAST[setting] - 1), Due.BAD_VALUE);
                Due.due("2: set above the range", x.set(setting, MOST[setting] + 1), Due.BAD_VALUE);
                Due.due("2: set far off", x.set(setting, Integer.MIN_VALUE), Due.BAD_VALUE);
                Due.due("2: set far off", x.set(setting, Integer.MAX_VALUE), Due.BAD_VALUE);
            }
            Due.due("2: set(5, 10)", x.set(5, 10), Due.BAD_VALUE);
            for (int far : Due.FAR) {
                Due.due("2: set(" + far + ", 10)", x.set(far, 10), Due.BAD_VALUE);
            }
        });
    }

    static void promise3Lot() {
        EscheatLots x = new EscheatLots();
        Due.due("3: lot(1)", x.lot(1), 0);
        Due.due("3: lot(9999)", x.lot(9999), 1);
        Due.due("3: value", x.of(0, 0), 1);
        Due.due("3: value", x.of(1, 0), 9999);
        Due.due("3: kept", x.of(1, 1), 0);
        Due.due("3: kept", x.count(3), 3);
        Due.isOneChange("3: lot", y -> y.lot(3), y -> y.lot(4));
        Due.changesNothing("3: lot with errors", y -> y.lot(3), y -> {
            Due.due("3: lot(0)", y.lot(0), Due.BAD_VALUE);
            Due.due("3: lot(10000)", y.lot(10000), Due.BAD_VALUE);
            Due.due("3: lot(-1)", y.lot(-1), Due.BAD_VALUE);
            Due.due("3: lot(MIN)", y.lot(Integer.MIN_VALUE), Due.BAD_VALUE);
            Due.due("3: lot(MAX)", y.lot(Integer.MAX_VALUE), Due.BAD_VALUE);
        });
    }

    static void twelveLots(EscheatLots x) {
        for (int lot = 0; lot < 12; lot++) {
            x.lot(100 + lot);
        }
    }

    static void promise3LotLimit() {
        EscheatLots x = new EscheatLots();
        for (int lot = 0; lot < 12; lot++) {
            Due.due("3: lot of twelve", x.lot(100 + lot), lot);
        }
        Due.due("3: the thirteenth lot", x.lot(1), Due.TOO_MANY);
        Due.due("3: a bad value goes ahead of too many", x.lot(0), Due.BAD_VALUE);
        Due.due("3: lots", x.count(1), 12);
        Due.due("3: kept", x.count(3), 4095);
        Due.due("3: last value", x.of(11, 0), 111);
        Due.changesNothing("3: too many", ChangesTest::twelveLots, y -> y.lot(1));
    }

    /** Lots 0 to 4 are kept, noticed, given, fallen (for 3 days) and returned; claims 0 and 1 are settled. */
    static void fiveStates(EscheatLots x) {
        Due.carry(x, "l10;l20;l30;l40;l50;c1@2/1;p0+99;d0;s2;n3;n4");
        x.set(Due.TERM, 2);
        Due.carry(x, "t5;c2@4/1;p1+99;d1;s4;n1");
    }

    static void promise4Notice() {
        EscheatLots x = new EscheatLots();
        x.lot(10);
        x.lot(20);
        x.lot(30);
        Due.due("4: notice(1)", x.notice(1), 1);
        Due.due("4: it is noticed", x.of(1, 1), 1);
        Due.due("4: notice(0)", x.notice(0), 2);
        Due.due("4: notice(2)", x.notice(2), 3);
        Due.due("4: noticed lots", x.count(4), 7);
        Due.due("4: counted days", x.of(1, 2), 0);
        EscheatLots y = Due.after(ChangesTest::fiveStates);
        Due.due("4: only noticed ones are told", y.notice(0), 2);
        Due.isOneChange("4: notice", z -> z.lot(3), z -> z.notice(0));
    }

    static void promise4NoticeErrors() {
        Due.changesNothing("4: notice with errors", ChangesTest::fiveStates, x -> {
            for (int lot = 0; lot < 5; lot++) {
                Due.due("4: state of " + lot, x.of(lot, 1), lot);
            }
            for (int lot = 1; lot < 5; lot++) {
                Due.due("4: notice(" + lot + ")", x.notice(lot), Due.NOT_POSSIBLE);
            }
            Due.due("4: notice(5)", x.notice(5), Due.NO_SUCH);
            for (int far : Due.FAR) {
                Due.due("4: notice(" + far + ")", x.notice(far), Due.NO_SUCH);
            }
        });
    }

    static void promise5Claim() {
        EscheatLots x = new EscheatLots();
        x.lot(10);
        x.lot(20);
        Due.due("5: claim(0, 0, 1)", x.claim(0, 0, 1), 0);
        Due.due("5: claim(15, 1, 5)", x.claim(15, 1, 5), 1);
        Due.due("5: claim(0, 1, 3)", x.claim(0, 1, 3), 2);
        int[][] want = {{0, 0, 1, 0, 0, 0, 0}, {15, 1, 5, 0, 0, 0, 0}, {0, 1, 3, 0, 0, 0, 0}};
        for (int claim = 0; claim < 3; claim++) {
            for (int what = 0; what <= 6; what++) {
                Due.due("5: ofClaim(" + claim + ", " + what + ")", x.ofClaim(claim, what), want[claim][what]);
            }
        }
        Due.isOneChange("5: claim", y -> y.lot(3), y -> y.claim(0, 0, 1));
    }

    static void promise5ClaimOfALotByItsState() {
        EscheatLots x = Due.after(ChangesTest::fiveStates);
        Due.due("5: claim to one that is kept", x.claim(5, 0, 1), 2);
        Due.due("5: claim to one that is noticed", x.claim(5, 1, 1), 3);
        Due.due("5: claim to one that is given", x.claim(5, 2, 1), Due.NOT_POSSIBLE);
        Due.due("5: claim to one that has fallen", x.claim(5, 3, 1), 4);
        Due.due("5: claim to one that is returned", x.claim(5, 4, 1), Due.NOT_POSSIBLE);
        Due.due("5: days since its fall", x.of(3, 3), 3);
        x.set(Due.BACK, 3);
        Due.due("5: BACK days ago", x.claim(6, 3, 1), 5);
        x.set(Due.BACK, 2);
        Due.due("5: more than BACK days ago", x.claim(7, 3, 1), Due.NOT_POSSIBLE);
        Due.due("5: BACK is only for lots that have fallen", x.claim(7, 1, 1), 6);
        Due.due("5: a bad line goes ahead of that", x.claim(7, 3, 0), Due.BAD_VALUE);
        x.pass(1);
        x.set(Due.BACK, 4);
        Due.due("5: a day later, BACK days ago", x.claim(7, 3, 1), 7);
    }

    static void promise5ClaimAgain() {
        EscheatLots x = new EscheatLots();
        x.lot(10);
        x.lot(20);
        x.claim(3, 0, 2);
        Due.due("5: while it is open", x.claim(3, 0, 2), Due.NOT_POSSIBLE);
        Due.due("5: of another line, while it is open", x.claim(3, 0, 1), Due.NOT_POSSIBLE);
        Due.due("5: to another lot", x.claim(3, 1, 2), 1);
        Due.due("5: of another heir", x.claim(4, 0, 2), 2);
        Due.uphold(x, 0);
        Due.due("5: while it is upheld", x.claim(3, 0, 2), Due.NOT_POSSIBLE);
        x.withdraw(0);
        Due.due("5: behind a withdrawal", x.claim(3, 0, 2), 3);
        x.decide(3);
        Due.due("5: behind a refusal", x.claim(3, 0, 2), 4);
        x.pass(90);
        Due.due("5: behind a lapse", x.claim(3, 0, 2), 5);
        Due.due("5: while the last one is open", x.claim(3, 0, 2), Due.NOT_POSSIBLE);
    }

    static void promise5ClaimErrors() {
        Due.changesNothing("5: claim with errors", ChangesTest::fiveStates, x -> {
            Due.due("5: no such heir goes ahead of the line", x.claim(16, 0, 9), Due.NO_SUCH);
            Due.due("5: no such lot goes ahead of the line", x.claim(0, 5, 9), Due.NO_SUCH);
            Due.due("5: line 0", x.claim(0, 0, 0), Due.BAD_VALUE);
            Due.due("5: line 6", x.claim(0, 0, 6), Due.BAD_VALUE);
            Due.due("5: a bad line goes ahead of a lot that is given", x.claim(0, 2, 6), Due.BAD_VALUE);
            for (int far : Due.FAR) {
                Due.due("5: claim(" + far + ", 0, 1)", x.claim(far, 0, 1), Due.NO_SUCH);
                Due.due("5: claim(0, " + far + ", 1)", x.claim(0, far, 1), Due.NO_SUCH);
                Due.due("5: claim(0, 0, " + far + ")", x.claim(0, 0, far), Due.BAD_VALUE);
            }
        });
    }

    /** 12 lots and 30 claims that are open. */
    static void thirtyClaims(EscheatLots x) {
        twelveLots(x);
        for (int claim = 0; claim < 30; claim++) {
            x.claim(claim % 16, claim % 12, 1 + claim % 5);
        }
    }

    static void promise5ClaimLimit() {
        EscheatLots x = new EscheatLots();
        twelveLots(x);
        for (int claim = 0; claim < 30; claim++) {
            Due.due("5: claim of thirty", x.claim(claim % 16, claim % 12, 1 + claim % 5), claim);
        }
        Due.due("5: the 31st claim", x.claim(15, 0, 1), Due.TOO_MANY);
        Due.due("5: what is not possible goes ahead of too many", x.claim(0, 0, 1), Due.NOT_POSSIBLE);
        Due.due("5: a bad line goes ahead of too many", x.claim(15, 0, 6), Due.BAD_VALUE);
        Due.due("5: no such heir goes ahead of too many", x.claim(16, 0, 1), Due.NO_SUCH);
        x.withdraw(0);
        Due.due("5: claims that do not stand are counted", x.claim(0, 0, 1), Due.TOO_MANY);
        Due.due("5: claims so far", x.count(2), 30);
        Due.due("5: the last claim's lot", x.ofClaim(29, 1), 5);
        Due.changesNothing("5: too many claims", ChangesTest::thirtyClaims, y -> y.claim(15, 0, 1));
    }

    static void promise6Prove() {
        EscheatLots x = new EscheatLots();
        x.lot(10);
        x.claim(1, 0, 1);
        x.claim(2, 0, 1);
        x.pass(7);
        Due.due("6: prove(0, 1)", x.prove(0, 1), 1);
        Due.due("6: it begins to wait anew", x.ofClaim(0, 5), 0);
        Due.due("6: another one waits on", x.ofClaim(1, 5), 7);
        Due.due("6: prove(0, 98)", x.prove(0, 98), 99);
        Due.due("6: prove(0, 2)", x.prove(0, 2), 100);
        Due.due("6: its proof", x.ofClaim(0, 3), 100);
        Due.due("6: prove(1, 100)", x.prove(1, 100), 100);
        x.pass(3);
        Due.due("6: prove(1, 1) of a whole proof", x.prove(1, 1), 100);
        Due.due("6: it begins to wait anew, too", x.ofClaim(1, 5), 0);
        Due.due("6: it is open yet", x.ofClaim(1, 4), 0);
        Due.isOneChange("6: prove", y -> Due.carry(y, "l5;c1@0/1;t4"), y -> y.prove(0, 50));
    }

    /** Claims 0 to 5 are withdrawn, lapsed, settled, open, upheld and refused. */
    static void sixClaims(EscheatLots x) {
        Due.carry(x, "l10;l20;l30;c9@0/1;c4@1/2");
        x.set(Due.LAPSE, 3);
        Due.carry(x, "t1;w0;t2;c5@2/1;p2+60;d2;s2");
        Due.carry(x, "c0@0/1;c1@0/2;c2@0/3;p4+70;d4;d5");
    }

    static final int OPEN = 3, UPHELD = 4, REFUSED = 5, WITHDRAWN = 0, LAPSED = 1, SETTLED = 2;

    static void promise6ProveErrors() {
        Due.changesNothing("6: prove with errors", ChangesTest::sixClaims, x -> {
            int[] want = {3, 4, 5, 0, 1, 2};
            for (int claim = 0; claim < 6; claim++) {
                Due.due("6: state of " + claim, x.ofClaim(claim, 4), want[claim]);
            }
            for (int claim : new int[] {UPHELD, REFUSED, WITHDRAWN, LAPSED, SETTLED}) {
                Due.due("6: prove(" + claim + ", 1)", x.prove(claim, 1), Due.NOT_POSSIBLE);
                Due.due("6: bad points go ahead of that", x.prove(claim, 0), Due.BAD_VALUE);
            }
            Due.due("6: prove(6, 0)", x.prove(6, 0), Due.NO_SUCH);
            Due.due("6: prove(3, 0)", x.prove(OPEN, 0), Due.BAD_VALUE);
            Due.due("6: prove(3, 101)", x.prove(OPEN, 101), Due.BAD_VALUE);
            for (int far : Due.FAR) {
                Due.due("6: prove(" + far + ", 1)", x.prove(far, 1), Due.NO_SUCH);
                Due.due("6: prove(3, " + far + ")", x.prove(OPEN, far), Due.BAD_VALUE);
            }
        });
    }

    static void promise7Decide() {
        EscheatLots x = new EscheatLots();
        Due.carry(x, "l10;c0@0/1;c1@0/1;c2@0/1;c3@0/1;p0+60;p1+59;t4");
        Due.due("7: with a proof of PROOF", x.decide(0), 1);
        Due.due("7: with one less", x.decide(1), 2);
        Due.due("7: without a proof", x.decide(2), 2);
        Due.due("7: it is upheld", x.ofClaim(0, 4), 1);
        Due.due("7: it is refused", x.ofClaim(1, 4), 2);
        x.set(Due.PROOF, 1);
        x.prove(3, 1);
        Due.due("7: PROOF of 1", x.decide(3), 1);
        Due.due("7: one that was refused stays so", x.ofClaim(1, 4), 2);
        x.pass(5);
        Due.due("7: an upheld one waits no more", x.ofClaim(0, 5), 4);
        Due.due("7: nor does a refused one", x.ofClaim(2, 5), 4);
        Due.isOneChange("7: decide", y -> Due.carry(y, "l5;c1@0/1;p0+60"), y -> y.decide(0));
    }

    static void promise7DecideErrors() {
        Due.changesNothing("7: decide with errors", ChangesTest::sixClaims, x -> {
            for (int claim : new int[] {UPHELD, REFUSED, WITHDRAWN, LAPSED, SETTLED}) {
                Due.due("7: decide(" + claim + ")", x.decide(claim), Due.NOT_POSSIBLE);
            }
            Due.due("7: decide(6)", x.decide(6), Due.NO_SUCH);
            for (int far : Due.FAR) {
                Due.due("7: decide(" + far + ")", x.decide(far), Due.NO_SUCH);
            }
        });
    }

    static void promise8Withdraw() {
        EscheatLots x = new EscheatLots();
        Due.carry(x, "l10;l20;c0@0/1;c1@0/2;c2@0/1;c0@1/1;p0+60;d0;t3");
        Due.due("8: withdraw(2), open", x.withdraw(2), 2);
        Due.due("8: it is withdrawn", x.ofClaim(2, 4), 3);
        Due.due("8: withdraw(0), upheld", x.withdraw(0), 1);
        Due.due("8: withdraw(1)", x.withdraw(1), 0);
        Due.due("8: withdraw(3), to another lot", x.withdraw(3), 0);
        x.pass(5);
        Due.due("8: it waits no more", x.ofClaim(2, 5), 3);
        Due.due("8: its proof stays", x.ofClaim(0, 3), 60);
        Due.isOneChange("8: withdraw", y -> Due.carry(y, "l5;c1@0/1;p0+60"), y -> y.withdraw(0));
    }

    static void promise8WithdrawErrors() {
        Due.changesNothing("8: withdraw with errors", ChangesTest::sixClaims, x -> {
            for (int claim : new int[] {REFUSED, WITHDRAWN, LAPSED, SETTLED}) {
                Due.due("8: withdraw(" + claim + ")", x.withdraw(claim), Due.NOT_POSSIBLE);
            }
            Due.due("8: withdraw(6)", x.withdraw(6), Due.NO_SUCH);
            for (int far : Due.FAR) {
                Due.due("8: withdraw(" + far + ")", x.withdraw(far), Due.NO_SUCH);
            }
        });
    }

    static void promise9SettleKeptAndNoticed() {
        EscheatLots x = new EscheatLots();
        Due.carry(x, "l10;l20;n1;c7@0/3;c8@1/3;p0+60;p1+60;d0;d1");
        Due.due("9: settle one that is kept", x.settle(0), 1);
        Due.due("9: settle one that is noticed", x.settle(1), 1);
        Due.due("9: it is given", x.of(0, 1), 2);
        Due.due("9: it is given", x.of(1, 1), 2);
        Due.due("9: its claim is settled", x.ofClaim(0, 4), 5);
        Due.due("9: what it brought", x.ofClaim(0, 6), 10);
        Due.due("9: the whole value goes to the heir", x.heir(8, 0), 20);
        Due.due("9: the crown has nothing", x.count(10), 0);
        Due.due("9: its value stays", x.of(1, 0), 20);
        Due.isOneChange("9: settle", y -> Due.carry(y, "l5;c1@0/1;p0+60;d0"), y -> y.settle(0));
    }

    static void promise9SettleNearestLine() {
        EscheatLots x = new EscheatLots();
        Due.carry(x, "l90;c1@0/4;c2@0/2;c3@0/2;c4@0/1;c5@0/3;p0+60;p1+60;p2+60");
        Due.carry(x, "d0;d1;d2;d3;p4+60;d4");
        Due.due("9: refused claims do not count", x.settle(0), 2);
        int[] brought = {0, 45, 45, 0, 0};
        int[] states = {5, 5, 5, 2, 5};
        for (int claim = 0; claim < 5; claim++) {
            Due.due("9: what claim " + claim + " brought", x.ofClaim(claim, 6), brought[claim]);
            Due.due("9: how claim " + claim + " is", x.ofClaim(claim, 4), states[claim]);
        }
        Due.due("9: heirs are not among those of other lots", x.heir(2, 3), 1);
        Due.due("9: of farther lines nothing", x.heir(1, 3), 0);
    }

    static void promise9SettleLeftOver() {
        EscheatLots x = new EscheatLots();
        Due.carry(x, "l11;l2;c9@0/1;c4@0/1;c6@0/1;c5@0/1;p3+60;p2+60;p1+60;p0+60;d3;d2;d1;d0");
        Due.due("9: settle among four", x.settle(0), 4);
        int[] brought = {3, 3, 3, 2};
        for (int claim = 0; claim < 4; claim++) {
            Due.due("9: left over, claim " + claim, x.ofClaim(claim, 6), brought[claim]);
        }
        Due.carry(x, "c9@1/5;c0@1/5;c1@1/5;p4+60;p5+60;p6+60;d4;d5;d6");
        Due.due("9: settle less than a coin each", x.settle(1), 3);
        int[] few = {1, 1, 0};
        for (int claim = 4; claim < 7; claim++) {
            Due.due("9: less than a coin, claim " + claim, x.ofClaim(claim, 6), few[claim - 4]);
            Due.due("9: it is settled all the same", x.ofClaim(claim, 4), 5);
        }
        Due.due("9: purses add up", x.heir(9, 0), 4);
        int[] order = {9, 4, 6, 5, 0};
        for (int rank = 0; rank < 5; rank++) {
            Due.due("9: paid(" + rank + ")", x.paid(rank), order[rank]);
        }
        Due.due("9: who got no coin is not paid", x.paid(5), Due.NO_SUCH);
    }

    static void promise9SettleFallen() {
        EscheatLots x = new EscheatLots();
        x.set(Due.TERM, 1);
        Due.carry(x, "l199;l70;n0;n1;t1;c1@0/1;c2@0/1;p0+60;p1+60;d0;d1;t2");
        Due.due("9: the crown has both values", x.count(10), 269);
        Due.due("9: settle one that has fallen", x.settle(0), 2);
        Due.due("9: it is returned", x.of(0, 1), 4);
        Due.due("9: it keeps its days since the fall", x.of(0, 3), 2);
        Due.due("9: 199 * 5 / 100 = 9 are kept", x.count(10), 79);
        Due.due("9: 190 are shared", x.heir(1, 0), 95);
        Due.due("9: 190 are shared", x.heir(2, 0), 95);
        x.pass(4);
        Due.due("9: days since the fall stand still", x.of(0, 3), 2);
        Due.due("9: those of the other one go on", x.of(1, 3), 6);
        Due.carry(x, "c1@1/1;p2+60;d2");
        x.set(Due.FEE, 0);
        Due.due("9: settle without a fee", x.settle(1), 1);
        Due.due("9: nothing of it is kept", x.count(10), 9);
        Due.due("9: all of it goes to the heir", x.heir(1, 0), 165);
        EscheatLots y = new EscheatLots();
        y.set(Due.TERM, 1);
        y.set(Due.FEE, 50);
        Due.carry(y, "l3;n0;t1;c1@0/1;p0+60;d0;s0");
        Due.due("9: 3 * 50 / 100 = 1 is kept", y.count(10), 1);
        Due.due("9: 2 are shared", y.heir(1, 0), 2);
    }

    static void promise9SettleErrors() {
        Due.Steps lots = x -> {
            fiveStates(x);
            Due.carry(x, "c1@0/1;c2@0/1;p2+60;d2;c3@1/1;d4");
        };
        Due.changesNothing("9: settle with errors", lots, x -> {
            Due.due("9: settle one that is given", x.settle(2), Due.NOT_POSSIBLE);
            Due.due("9: settle one that is returned", x.settle(4), Due.NOT_POSSIBLE);
            Due.due("9: settle one without a claim", x.settle(3), Due.NOT_POSSIBLE);
            Due.due("9: settle one with an open claim beside an upheld one", x.settle(0), Due.NOT_POSSIBLE);
            Due.due("9: settle one with a refused claim", x.settle(1), Due.NOT_POSSIBLE);
            Due.due("9: settle(5)", x.settle(5), Due.NO_SUCH);
            for (int far : Due.FAR) {
                Due.due("9: settle(" + far + ")", x.settle(far), Due.NO_SUCH);
            }
        });
    }

    static void promise10Pass() {
        EscheatLots x = new EscheatLots();
        Due.due("10: pass(1)", x.pass(1), 0);
        Due.due("10: pass(400)", x.pass(400), 0);
        Due.due("10: the day", x.count(0), 401);
        Due.carry(x, "l10;l20;l30;n0;n2");
        Due.due("10: pass(365)", x.pass(365), 0);
        Due.due("10: counted days", x.of(0, 2), 365);
        Due.due("10: a lot that is kept is not counted", x.of(1, 2), 0);
        Due.due("10: pass(1), the 366th", x.pass(1), 2);
        Due.due("10: they have fallen", x.count(6), 5);
        Due.due("10: the crown has their values", x.count(10), 40);
        Due.due("10: counted days stay", x.of(0, 2), 366);
        Due.due("10: a lot falls once", x.pass(400), 0);
        Due.due("10: a kept one never falls", x.of(1, 1), 0);
        Due.isOneChange("10: pass", y -> Due.carry(y, "l5;n0;c1@0/1"), y -> y.pass(400));
        EscheatLots z = new EscheatLots();
        z.set(Due.TERM, 1);
        Due.carry(z, "l1;l2;n0;n1");
        Due.due("10: TERM of 1", z.pass(1), 2);
        EscheatLots lower = Due.after(y -> Due.carry(y, "l5;n0;t9"));
        lower.set(Due.TERM, 4);
        Due.due("10: TERM below what is counted", lower.of(0, 1), 1);
        Due.due("10: it falls on the next day that is counted", lower.pass(1), 1);
        Due.due("10: that day is counted, too", lower.of(0, 2), 10);
    }

    static void promise10CountsWhileNoClaimStands() {
        EscheatLots x = new EscheatLots();
        x.set(Due.TERM, 10);
        Due.carry(x, "l10;l20;n0;n1;c1@0/1");
        Due.due("10: while a claim is open", x.pass(3), 0);
        Due.due("10: nothing is counted", x.of(0, 2), 0);
        Due.due("10: to the other lot it is", x.of(1, 2), 3);
        Due.uphold(x, 0);
        x.pass(2);
        Due.due("10: nor while one is upheld", x.of(0, 2), 0);
        x.withdraw(0);
        x.pass(2);
        Due.due("10: behind its withdrawal it is", x.of(0, 2), 2);
        x.claim(1, 0, 1);
        x.decide(1);
        x.pass(1);
        Due.due("10: a refused one does not stand", x.of(0, 2), 3);
        Due.due("10: an upheld claim stands however long", x.claim(1, 0, 1), 2);
        Due.uphold(x, 2);
        Due.due("10: the other lot falls", x.pass(400), 1);
        Due.due("10: this one does not", x.of(0, 2), 3);
    }

    static void promise10Lapse() {
        EscheatLots x = new EscheatLots();
        x.set(Due.LAPSE, 4);
        Due.carry(x, "l10;l20;c1@0/1;t1;c2@0/1;c3@1/1");
        x.pass(2);
        Due.due("10: one day ahead of the lapse", x.ofClaim(0, 4), 0);
        x.pass(1);
        Due.due("10: with LAPSE days", x.ofClaim(0, 4), 4);
        Due.due("10: the days that it waited", x.ofClaim(0, 5), 4);
        Due.due("10: a younger one is open", x.ofClaim(1, 4), 0);
        x.prove(1, 1);
        x.pass(1);
        Due.due("10: one that was proved is open", x.ofClaim(1, 4), 0);
        Due.due("10: one to a kept lot lapses, too", x.ofClaim(2, 4), 4);
        x.pass(3);
        Due.due("10: LAPSE days behind its proof", x.ofClaim(1, 4), 4);
        x.pass(3);
        Due.due("10: a lapsed one waits no more", x.ofClaim(0, 5), 4);
        EscheatLots y = Due.after(z -> Due.carry(z, "l5;c1@0/1;t9"));
        y.set(Due.LAPSE, 5);
        Due.due("10: LAPSE below what it waited", y.ofClaim(0, 4), 0);
        y.pass(1);
        Due.due("10: it lapses on the next day", y.ofClaim(0, 4), 4);
        Due.due("10: that day it waited, too", y.ofClaim(0, 5), 10);
        EscheatLots fallen = new EscheatLots();
        fallen.set(Due.TERM, 1);
        fallen.set(Due.LAPSE, 2);
        Due.carry(fallen, "l5;n0;t1;c1@0/1;t2");
        Due.due("10: one to a fallen lot lapses, too", fallen.ofClaim(0, 4), 4);
    }

    static void promise10LapseAndFallOfOneDay() {
        EscheatLots x = new EscheatLots();
        x.set(Due.LAPSE, 3);
        x.set(Due.TERM, 5);
        Due.carry(x, "l10;n0;t4;c1@0/1;c2@0/1");
        Due.due("10: claims stand", x.pass(2), 0);
        Due.due("10: on the day on which they lapse a day is counted", x.pass(1), 1);
        Due.due("10: it has fallen", x.of(0, 1), 3);
        EscheatLots y = new EscheatLots();
        y.set(Due.LAPSE, 3);
        y.set(Due.TERM, 5);
        Due.carry(y, "l10;n0;t4;c1@0/1;t1;c2@0/1");
        Due.due("10: the last claim counts", y.pass(2), 0);
        Due.due("10: it lapses a day later", y.pass(1), 1);
    }

    static void promise10TwelveLotsAndThirtyClaims() {
        EscheatLots x = Due.after(ChangesTest::thirtyClaims);
        for (int lot = 0; lot < 12; lot++) {
            Due.due("10: notice of twelve", x.notice(lot), lot + 1);
        }
        x.set(Due.TERM, 20);
        Due.due("10: claims to all twelve", x.pass(108), 0);
        Due.due("10: all claims have lapsed", x.count(12), 0);
        Due.due("10: all twelve fall", x.pass(1), 12);
        Due.due("10: all twelve have fallen", x.count(6), 4095);
        Due.due("10: the crown has all values", x.count(10), 1266);
        x.pass(2);
        Due.due("10: days since the fall of the last one", x.of(11, 3), 2);
    }

    static void promise10SinceTheFall() {
        EscheatLots x = new EscheatLots();
        x.set(Due.TERM, 3);
        Due.carry(x, "l10;n0;t3");
        Due.due("10: on the day of its fall", x.of(0, 3), 0);
        x.pass(1);
        Due.due("10: a day later", x.of(0, 3), 1);
        x.claim(1, 0, 1);
        x.pass(7);
        Due.due("10: claims do not hold these days up", x.of(0, 3), 8);
        EscheatLots y = Due.after(z -> z.set(Due.TERM, 3));
        Due.carry(y, "l10;n0");
        Due.due("10: a fall within a longer pass", y.pass(10), 1);
        Due.due("10: days since it", y.of(0, 3), 7);
    }

    static void promise10PassErrors() {
        Due.changesNothing("10: pass with errors", ChangesTest::sixClaims, x -> {
            Due.due("10: pass(0)", x.pass(0), Due.BAD_VALUE);
            Due.due("10: pass(401)", x.pass(401), Due.BAD_VALUE);
            for (int far : Due.FAR) {
                Due.due("10: pass(" + far + ")", x.pass(far), Due.BAD_VALUE);
            }
        });
    }

    static void toDay9600(EscheatLots x) {
        for (int i = 0; i < 24; i++) {
            x.pass(400);
        }
    }

    static void promise10LastDay() {
        EscheatLots x = Due.after(ChangesTest::toDay9600);
        Due.due("10: above day 9999", x.pass(400), Due.NOT_POSSIBLE);
        Due.due("10: a bad value goes ahead of that", x.pass(401), Due.BAD_VALUE);
        Due.due("10: to day 9999", x.pass(399), 0);
        Due.due("10: the day", x.count(0), 9999);
        Due.due("10: one day more", x.pass(1), Due.NOT_POSSIBLE);
        Due.due("10: a bad value on the last day", x.pass(0), Due.BAD_VALUE);
        Due.changesNothing("10: pass above the last day", ChangesTest::toDay9600, y -> y.pass(400));
    }
}
