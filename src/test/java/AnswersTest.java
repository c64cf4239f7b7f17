/** Promises 11 to 15: what there is. */
public final class AnswersTest {
    public static void main(String[] args) {
        promise11Of();
        promise11NearestLine();
        promise11Errors();
        promise12OfClaim();
        promise12Errors();
        promise13Heir();
        promise13Errors();
        promise14Paid();
        promise14AllHeirs();
        promise15CountAtWork();
        promise15CountOfTextsAndChanges();
        promise15Errors();
        answersChangeNothing();
        Due.end();
    }

    /**
     * Lot 0 (100) is kept, 1 (200) noticed, 2 (300) given, 3 (400) fallen, 4 (500) returned. The claims:
     * 0 of heir 1 to lot 2, settled; 1 of heir 2 to lot 4, settled; 2 of heir 1 to lot 4, settled without a coin;
     * 3 of heir 15 to lot 1, upheld; 4 of heir 1 to lot 1, open; 5 of heir 0 to lot 1, withdrawn.
     */
    static void atWork(EscheatLots x) {
        x.set(Due.TERM, 2);
        Due.carry(x, "l100;l200;l300;l400;l500;c1@2/3;p0+60;d0;s2;n3;n4;t4");
        Due.carry(x, "c2@4/1;c1@4/2;p1+99;p2+60;d1;d2;s4");
        Due.carry(x, "n1;t1;c15@1/4;c1@1/5;c0@1/1;p3+99;d3;w5;p4+7;t3");
    }

    static void promise11Of() {
        EscheatLots x = Due.after(AnswersTest::atWork);
        int[][] want = {
            {100, 0, 0, 0, 0, 0, Due.NONE},
            {200, 1, 1, 0, 8 + 16, 8 + 16 + 32, 4},
            {300, 2, 0, 0, 0, 1, Due.NONE},
            {400, 3, 2, 6, 0, 0, Due.NONE},
            {500, 4, 2, 2, 0, 2 + 4, Due.NONE},
        };
        for (int lot = 0; lot < 5; lot++) {
            for (int what = 0; what <= 6; what++) {
                Due.due("11: of(" + lot + ", " + what + ")", x.of(lot, what), want[lot][what]);
            }
        }
    }

    static void promise11NearestLine() {
        EscheatLots x = new EscheatLots();
        Due.carry(x, "l9;l9;c0@0/5;c1@0/2;c2@0/3;c3@0/1;c4@1/1;p0+60;p1+60;p2+60;p4+60;d4");
        Due.due("11: open claims have no say", x.of(0, 6), Due.NONE);
        x.decide(0);
        Due.due("11: line 5", x.of(0, 6), 5);
        x.decide(1);
        Due.due("11: line 2", x.of(0, 6), 2);
        x.decide(2);
        Due.due("11: line 3 is farther", x.of(0, 6), 2);
        x.decide(3);
        Due.due("11: a refused one has no say", x.of(0, 6), 2);
        x.withdraw(1);
        Due.due("11: nor a withdrawn one", x.of(0, 6), 3);
        x.settle(0);
        Due.due("11: nor settled ones", x.of(0, 6), Due.NONE);
        Due.due("11: claims to it", x.of(0, 5), 15);
        Due.due("11: that of the other lot", x.of(1, 6), 1);
    }

    static void promise11Errors() {
        EscheatLots x = Due.after(AnswersTest::atWork);
        Due.due("11: of(5, 0)", x.of(5, 0), Due.NO_SUCH);
        Due.due("11: no such lot goes ahead", x.of(5, 7), Due.NO_SUCH);
        Due.due("11: of(0, 7)", x.of(0, 7), Due.BAD_VALUE);
        for (int far : Due.FAR) {
            Due.due("11: of(" + far + ", 0)", x.of(far, 0), Due.NO_SUCH);
            Due.due("11: of(0, " + far + ")", x.of(0, far), Due.BAD_VALUE);
        }
    }

    static void promise12OfClaim() {
        EscheatLots x = Due.after(AnswersTest::atWork);
        int[][] want = {
            {1, 2, 3, 60, 5, 0, 300},
            {2, 4, 1, 99, 5, 0, 475},
            {1, 4, 2, 60, 5, 0, 0},
            {15, 1, 4, 99, 1, 0, 0},
            {1, 1, 5, 7, 0, 3, 0},
            {0, 1, 1, 0, 3, 0, 0},
        };
        for (int claim = 0; claim < 6; claim++) {
            for (int what = 0; what <= 6; what++) {
                Due.due("12: ofClaim(" + claim + ", " + what + ")", x.ofClaim(claim, what), want[claim][what]);
            }
        }
        x.pass(87);
        Due.due("12: a lapsed one", x.ofClaim(4, 4), 4);
        Due.due("12: it waited", x.ofClaim(4, 5), 90);
    }

    static void promise12Errors() {
        EscheatLots x = Due.after(AnswersTest::atWork);
        Due.due("12: ofClaim(6, 0)", x.ofClaim(6, 0), Due.NO_SUCH);
        Due.due("12: no such claim goes ahead", x.ofClaim(6, 7), Due.NO_SUCH);
        Due.due("12: ofClaim(0, 7)", x.ofClaim(0, 7), Due.BAD_VALUE);
        for (int far : Due.FAR) {
            Due.due("12: ofClaim(" + far + ", 0)", x.ofClaim(far, 0), Due.NO_SUCH);
            Due.due("12: ofClaim(0, " + far + ")", x.ofClaim(0, far), Due.BAD_VALUE);
        }
    }

    static void promise13Heir() {
        EscheatLots x = Due.after(AnswersTest::atWork);
        int[][] want = {{0, 32, 0, 0}, {300, 1 + 4 + 16, 16, 4}, {475, 2, 0, 16}, {0, 0, 0, 0}};
        for (int heir = 0; heir < 4; heir++) {
            for (int what = 0; what <= 3; what++) {
                Due.due("13: heir(" + heir + ", " + what + ")", x.heir(heir, what), want[heir][what]);
            }
        }
        Due.due("13: an upheld one stands", x.heir(15, 2), 8);
        Due.carry(x, "d4;s1;c1@0/1;p6+99;d6;s0");
        Due.due("13: no coin of lot 1", x.heir(15, 3), 2);
        Due.due("13: a purse of more lots", x.heir(1, 0), 400);
        Due.due("13: lots of which it got a coin", x.heir(1, 3), 1 + 4);
        Due.due("13: none of them stands", x.heir(1, 2), 0);
    }

    static void promise13Errors() {
        EscheatLots x = Due.after(AnswersTest::atWork);
        Due.due("13: heir(16, 0)", x.heir(16, 0), Due.NO_SUCH);
        Due.due("13: no such heir goes ahead", x.heir(16, 4), Due.NO_SUCH);
        Due.due("13: heir(15, 4)", x.heir(15, 4), Due.BAD_VALUE);
        for (int far : Due.FAR) {
            Due.due("13: heir(" + far + ", 0)", x.heir(far, 0), Due.NO_SUCH);
            Due.due("13: heir(0, " + far + ")", x.heir(0, far), Due.BAD_VALUE);
        }
    }

    static void promise14Paid() {
        EscheatLots x = new EscheatLots();
        Due.carry(x, "l1;l9;l9;c5@0/1;c3@0/1;c8@1/2;c3@1/2;c0@1/1;p0+60;p1+60;p2+60;p3+60;p4+60");
        Due.carry(x, "d0;d1;d2;d3;d4;c3@2/2;c5@2/2;p5+60;p6+60;d6;d5");
        Due.due("14: nobody yet", x.paid(0), Due.NO_SUCH);
        x.settle(1);
        Due.due("14: of the nearest line", x.paid(0), 0);
        Due.due("14: not of a farther one", x.paid(1), Due.NO_SUCH);
        x.settle(0);
        Due.due("14: the one with the coin", x.paid(1), 5);
        Due.due("14: not the one without", x.paid(2), Due.NO_SUCH);
        x.settle(2);
        Due.due("14: who has got more is told once", x.paid(2), 3);
        Due.due("14: no more", x.paid(3), Due.NO_SUCH);
        Due.due("14: the first one stays", x.paid(0), 0);
        for (int far : Due.FAR) {
            Due.due("14: paid(" + far + ")", x.paid(far), Due.NO_SUCH);
        }
        x.undo();
        Due.due("14: undone", x.paid(2), Due.NO_SUCH);
    }

    static void promise14AllHeirs() {
        EscheatLots x = new EscheatLots();
        x.lot(9999);
        for (int i = 0; i < 16; i++) {
            x.claim(i * 7 % 16, 0, 3);
            Due.uphold(x, i);
        }
        Due.due("14: settle among sixteen", x.settle(0), 16);
        for (int i = 0; i < 16; i++) {
            Due.due("14: paid(" + i + ")", x.paid(i), i * 7 % 16);
            Due.due("14: the purse of " + i, x.heir(i * 7 % 16, 0), i < 15 ? 625 : 624);
        }
        Due.due("14: paid(16)", x.paid(16), Due.NO_SUCH);
        Due.due("14: all purses", x.count(11), 9999);
    }

    static void promise15CountAtWork() {
        EscheatLots x = Due.after(AnswersTest::atWork);
        x.set(Due.PROOF, 61);
        x.set(Due.LAPSE, 91);
        int[] want = {8, 5, 6, 1, 2, 4, 8, 16, 1500, 300, 425, 775, 8 + 16, 4, 2, 61, 91, 30, 5, 0, 6};
        for (int what = 0; what <= 20; what++) {
            Due.due("15: count(" + what + ")", x.count(what), want[what]);
        }
        x.set(Due.BACK, 31);
        x.set(Due.FEE, 6);
        Due.due("15: BACK", x.count(17), 31);
        Due.due("15: FEE", x.count(18), 6);
    }

    static void promise15CountOfTextsAndChanges() {
        EscheatLots x = new EscheatLots();
        x.put(Due.packed("l1;l2"));
        Due.due("15: the length of the pad", x.count(19), 5);
        Due.due("15: put() is no change", x.count(20), 0);
        x.carryOut();
        Due.due("15: carryOut() empties it", x.count(19), 0);
        Due.due("15: carryOut() is a change", x.count(20), 1);
        for (int changes = 2; changes <= 9; changes++) {
            x.pass(1);
            Due.due("15: changes that can be undone", x.count(20), Math.min(changes, 6));
        }
    }

    static void promise15Errors() {
        EscheatLots x = Due.after(AnswersTest::atWork);
        Due.due("15: count(21)", x.count(21), Due.BAD_VALUE);
        for (int far : Due.FAR) {
            Due.due("15: count(" + far + ")", x.count(far), Due.BAD_VALUE);
        }
    }

    static void answersChangeNothing() {
        Due.changesNothing("11 to 20: questions", AnswersTest::atWork, x -> {
            Due.all(x);
            x.of(0, 7);
            x.of(9, 0);
            for (int lot = 0; lot < 5; lot++) {
                x.why(lot);
                x.fallsIn(lot);
                x.share(lot, 1, 0);
                x.share(lot, 1, 1);
            }
            x.nextFall(0);
            x.nextFall(1);
            x.nextLapse(0);
            x.nextLapse(1);
            x.fault();
        });
    }
}
