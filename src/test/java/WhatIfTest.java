/** Promises 16 to 20: what if. */
public final class WhatIfTest {
    public static void main(String[] args) {
        promise16Why();
        promise16Errors();
        promise17FallsIn();
        promise17OpenClaims();
        promise17ItIsSo();
        promise17FarDays();
        promise17TheLastDayDoesNotMatter();
        promise17Errors();
        promise18Share();
        promise18Fallen();
        promise18SharesAreThoseOfSettle();
        promise18Errors();
        promise19NextFall();
        promise19Errors();
        promise20NextLapse();
        promise20OfOneDay();
        promise20Errors();
        Due.end();
    }

    static void promise16Why() {
        EscheatLots x = Due.after(ChangesTest::fiveStates);
        int[] want = {1, 0, 1, 1, 1};
        for (int lot = 0; lot < 5; lot++) {
            Due.due("16: why(" + lot + ")", x.why(lot), want[lot]);
        }
        Due.carry(x, "c0@0/1;c0@1/1;c1@1/1");
        Due.due("16: it is not noticed goes ahead", x.why(0), 1);
        Due.due("16: a claim is open", x.why(1), 2);
        Due.uphold(x, 3);
        Due.due("16: one that is open goes ahead of one that is upheld", x.why(1), 2);
        x.decide(4);
        Due.due("16: one is upheld", x.why(1), 3);
        x.withdraw(3);
        Due.due("16: it would", x.why(1), 0);
        Due.due("16: the open claim to lot 0 yet", x.why(0), 1);
    }

    static void promise16Errors() {
        EscheatLots x = Due.after(ChangesTest::fiveStates);
        Due.due("16: why(5)", x.why(5), Due.NO_SUCH);
        for (int far : Due.FAR) {
            Due.due("16: why(" + far + ")", x.why(far), Due.NO_SUCH);
        }
    }

    static void promise17FallsIn() {
        EscheatLots x = new EscheatLots();
        Due.carry(x, "l10;n0");
        Due.due("17: TERM days", x.fallsIn(0), 366);
        x.pass(365);
        Due.due("17: the next day", x.fallsIn(0), 1);
        x.set(Due.TERM, 100);
        Due.due("17: TERM below what is counted", x.fallsIn(0), 1);
        x.set(Due.TERM, 365);
        Due.due("17: TERM as counted", x.fallsIn(0), 1);
        x.set(Due.TERM, 400);
        Due.due("17: TERM of 400", x.fallsIn(0), 35);
        x.claim(1, 0, 1);
        x.decide(0);
        Due.due("17: a refused claim does not matter", x.fallsIn(0), 35);
        x.claim(1, 0, 1);
        Due.uphold(x, 1);
        Due.due("17: an upheld one stands for ever", x.fallsIn(0), Due.NONE);
        x.claim(2, 0, 1);
        Due.due("17: also beside an open one", x.fallsIn(0), Due.NONE);
        x.withdraw(1);
        Due.due("17: the open one lapses on day 90", x.fallsIn(0), 89 + 35);
        Due.due("17: nothing has changed", x.of(0, 2), 365);
        Due.due("17: nothing has changed", x.ofClaim(2, 5), 0);
    }

    static void promise17OpenClaims() {
        EscheatLots x = new EscheatLots();
        x.set(Due.TERM, 10);
        Due.carry(x, "l10;l20;n0;n1;t4;c1@0/1;t3;c2@0/1;t2;c3@1/1");
        Due.due("17: the last of two that lapse", x.fallsIn(0), 87 + 6);
        Due.due("17: of another lot", x.fallsIn(1), 89 + 1);
        x.prove(0, 1);
        Due.due("17: a proof makes it later", x.fallsIn(0), 89 + 6);
        x.set(Due.LAPSE, 1);
        Due.due("17: all lapse on the next day, which is counted", x.fallsIn(0), 6);
        Due.due("17: all lapse on the next day, which is counted", x.fallsIn(1), 1);
    }

    /** What fallsIn() tells is what pass() brings. */
    static void promise17ItIsSo() {
        for (int term = 1; term <= 9; term++) {
            for (int lapse = 1; lapse <= 9; lapse++) {
                EscheatLots x = new EscheatLots();
                x.set(Due.TERM, term);
                x.set(Due.LAPSE, lapse);
                Due.carry(x, "l10;c1@0/1;t2;n0;t2;c2@0/1;t1;c3@0/1;t1");
                if (x.of(0, 1) == 1) {
                    int days = x.fallsIn(0);
                    String name = "17: TERM " + term + ", LAPSE " + lapse;
                    Due.due(name + ", nextFall(0)", x.nextFall(0), 0);
                    Due.due(name + ", a day ahead", days == 1 ? 0 : x.pass(days - 1), 0);
                    Due.due(name + ", the day", x.pass(1), 1);
                }
            }
        }
    }

    static void promise17FarDays() {
        EscheatLots x = new EscheatLots();
        x.set(Due.TERM, 400);
        x.set(Due.LAPSE, 200);
        Due.carry(x, "l10;n0;c1@0/1");
        Due.due("17: the farthest day", x.fallsIn(0), 599);
        Due.due("17: the farthest day, nextFall", x.nextFall(1), 599);
        Due.due("17: it is so", x.pass(400) + x.pass(198), 0);
        Due.due("17: it is so", x.pass(1), 1);
    }

    static void promise17TheLastDayDoesNotMatter() {
        EscheatLots x = Due.after(ChangesTest::toDay9600);
        x.pass(399);
        Due.carry(x, "l10;n0;c1@0/1");
        Due.due("17: on day 9999", x.fallsIn(0), 89 + 366);
        Due.due("19: on day 9999", x.nextFall(1), 89 + 366);
        Due.due("20: on day 9999", x.nextLapse(0), 90);
    }

    static void promise17Errors() {
        EscheatLots x = Due.after(ChangesTest::fiveStates);
        for (int lot = 0; lot < 5; lot++) {
            Due.due("17: fallsIn(" + lot + ")", x.fallsIn(lot), lot == 1 ? 2 : Due.NOT_POSSIBLE);
        }
        Due.carry(x, "c9@0/1;p2+99;d2");
        Due.due("17: not noticed goes ahead of none", x.fallsIn(0), Due.NOT_POSSIBLE);
        Due.due("17: fallsIn(5)", x.fallsIn(5), Due.NO_SUCH);
        for (int far : Due.FAR) {
            Due.due("17: fallsIn(" + far + ")", x.fallsIn(far), Due.NO_SUCH);
        }
    }

    static void promise18Share() {
        EscheatLots x = new EscheatLots();
        Due.carry(x, "l11;l50;c1@0/2;c2@0/2;c3@0/1;c4@0/3;c5@1/1;c6@0/2");
        Due.due("18: none upheld", x.share(0, 1, 0), 0);
        Due.due("18: the nearest line of those that are open", x.share(0, 3, 1), 11);
        Due.due("18: a farther one", x.share(0, 1, 1), 0);
        Due.uphold(x, 0);
        Due.due("18: the only upheld one", x.share(0, 1, 0), 11);
        Due.due("18: an open one of a nearer line would get all", x.share(0, 3, 1), 11);
        Due.due("18: the upheld one nothing", x.share(0, 1, 1), 0);
        Due.due("18: an open one is refused", x.share(0, 3, 0), 0);
        x.decide(2);
        Due.due("18: of three, left over", x.share(0, 1, 1), 4);
        Due.due("18: of three, left over", x.share(0, 2, 1), 4);
        Due.due("18: of three", x.share(0, 6, 1), 3);
        Due.due("18: a claim to another lot", x.share(0, 5, 1), 0);
        Due.due("18: an heir without a claim", x.share(0, 15, 1), 0);
        Due.due("18: of another lot", x.share(1, 5, 1), 50);
        Due.due("18: of another lot, open", x.share(1, 5, 0), 0);
        Due.due("18: nothing is given", x.count(11), 0);
        Due.due("18: it is kept", x.of(0, 1), 0);
        x.withdraw(0);
        x.claim(1, 0, 2);
        Due.due("18: a later claim of the same heir", x.share(0, 1, 1), 3);
        Due.due("18: left over goes by claims", x.share(0, 2, 1), 4);
    }

    static void promise18Fallen() {
        EscheatLots x = new EscheatLots();
        x.set(Due.TERM, 1);
        x.set(Due.FEE, 7);
        Due.carry(x, "l99;n0;t1;c1@0/2;c2@0/2");
        Due.uphold(x, 0);
        Due.due("18: fallen, 99 - 6", x.share(0, 1, 0), 93);
        Due.due("18: fallen, both", x.share(0, 1, 1), 47);
        Due.due("18: fallen, both", x.share(0, 2, 1), 46);
        Due.due("18: the crown has it yet", x.count(10), 99);
        x.set(Due.FEE, 50);
        Due.due("18: another fee", x.share(0, 1, 0), 50);
        x.pass(31);
        Due.due("18: behind BACK days, too", x.share(0, 1, 0), 50);
    }

    static void promise18SharesAreThoseOfSettle() {
        for (int value = 1; value <= 40; value++) {
            EscheatLots x = new EscheatLots();
            x.lot(value);
            for (int claim = 0; claim < 6; claim++) {
                x.claim(claim * 5 % 16, 0, 2 + claim % 2);
                x.prove(claim, 60);
            }
            int[] would = new int[16];
            for (int heir = 0; heir < 16; heir++) {
                would[heir] = x.share(0, heir, 1);
            }
            Due.carry(x, "d0;d1;d2;d3;d4;d5");
            for (int heir = 0; heir < 16; heir++) {
                Due.due("18: the same way, value " + value, x.share(0, heir, 0), would[heir]);
            }
            x.settle(0);
            for (int heir = 0; heir < 16; heir++) {
                Due.due("18: value " + value + ", heir " + heir, x.heir(heir, 0), would[heir]);
            }
        }
    }

    static void promise18Errors() {
        EscheatLots x = Due.after(ChangesTest::fiveStates);
        Due.due("18: given", x.share(2, 1, 0), Due.NOT_POSSIBLE);
        Due.due("18: returned", x.share(4, 1, 1), Due.NOT_POSSIBLE);
        Due.due("18: a bad way goes ahead of that", x.share(2, 1, 2), Due.BAD_VALUE);
        Due.due("18: no such lot goes ahead of the way", x.share(5, 1, 2), Due.NO_SUCH);
        Due.due("18: no such heir goes ahead of the way", x.share(0, 16, 2), Due.NO_SUCH);
        Due.due("18: no such heir goes ahead of what is not possible", x.share(2, 16, 0), Due.NO_SUCH);
        Due.due("18: way 2", x.share(0, 1, 2), Due.BAD_VALUE);
        for (int far : Due.FAR) {
            Due.due("18: share(" + far + ", 1, 0)", x.share(far, 1, 0), Due.NO_SUCH);
            Due.due("18: share(0, " + far + ", 0)", x.share(0, far, 0), Due.NO_SUCH);
            Due.due("18: share(0, 1, " + far + ")", x.share(0, 1, far), Due.BAD_VALUE);
        }
    }

    static void nextFallIs(String name, EscheatLots x, int lot, int days) {
        Due.due("19: " + name + ", the lot", x.nextFall(0), lot);
        Due.due("19: " + name + ", in how many days", x.nextFall(1), days);
    }

    static void promise19NextFall() {
        EscheatLots x = new EscheatLots();
        nextFallIs("no lot", x, Due.NONE, Due.NONE);
        Due.carry(x, "l10;l20;l30;l40");
        nextFallIs("none noticed", x, Due.NONE, Due.NONE);
        Due.carry(x, "n2;t5;n1;n3");
        nextFallIs("the earliest", x, 2, 361);
        x.claim(1, 2, 1);
        nextFallIs("the earliest is claimed, of two the lowest", x, 1, 366);
        x.claim(1, 1, 1);
        nextFallIs("the lowest is claimed, too", x, 3, 366);
        x.claim(1, 3, 1);
        nextFallIs("all are claimed", x, 2, 89 + 361);
        Due.uphold(x, 0);
        nextFallIs("of these one is upheld", x, 1, 89 + 366);
        Due.uphold(x, 1);
        Due.uphold(x, 2);
        nextFallIs("all are upheld", x, Due.NONE, Due.NONE);
        x.withdraw(2);
        nextFallIs("one is free", x, 3, 366);
        x.pass(366);
        nextFallIs("it has fallen", x, Due.NONE, Due.NONE);
        x.notice(0);
        nextFallIs("lot 0", x, 0, 366);
    }

    static void promise19Errors() {
        EscheatLots x = Due.after(ChangesTest::fiveStates);
        Due.due("19: nextFall(2)", x.nextFall(2), Due.BAD_VALUE);
        Due.due("19: a bad value goes ahead of none", new EscheatLots().nextFall(2), Due.BAD_VALUE);
        for (int far : Due.FAR) {
            Due.due("19: nextFall(" + far + ")", x.nextFall(far), Due.BAD_VALUE);
        }
    }

    static void nextLapseIs(String name, EscheatLots x, int days, int claim) {
        Due.due("20: " + name + ", in how many days", x.nextLapse(0), days);
        Due.due("20: " + name + ", the claim", x.nextLapse(1), claim);
    }

    static void promise20NextLapse() {
        EscheatLots x = new EscheatLots();
        nextLapseIs("no claim", x, Due.NONE, Due.NONE);
        Due.carry(x, "l10;l20;c1@1/1;t3;c2@0/1;t2");
        nextLapseIs("the oldest", x, 85, 0);
        x.prove(0, 1);
        nextLapseIs("it was proved", x, 88, 1);
        x.set(Due.LAPSE, 2);
        nextLapseIs("on the next day", x, 1, 1);
        x.set(Due.LAPSE, 1);
        nextLapseIs("never on this day; of one day that of the lowest lot", x, 1, 1);
        Due.uphold(x, 1);
        nextLapseIs("an upheld one does not lapse", x, 1, 0);
        x.decide(0);
        nextLapseIs("none is open", x, Due.NONE, Due.NONE);
        x.set(Due.LAPSE, 200);
        x.claim(3, 0, 1);
        nextLapseIs("the farthest", x, 200, 2);
        x.pass(199);
        nextLapseIs("a day ahead", x, 1, 2);
        x.pass(1);
        nextLapseIs("it has lapsed", x, Due.NONE, Due.NONE);
    }

    static void promise20OfOneDay() {
        EscheatLots x = new EscheatLots();
        Due.carry(x, "l10;l20;l30;c1@2/1;c1@1/1;c2@1/1;c3@2/1");
        nextLapseIs("the lowest lot, of its claims the lowest", x, 90, 1);
        x.prove(1, 1);
        nextLapseIs("proved on the same day", x, 90, 1);
        x.withdraw(1);
        nextLapseIs("the next one of that lot", x, 90, 2);
        x.withdraw(2);
        nextLapseIs("the next lot, of its claims the lowest", x, 90, 0);
        x.claim(1, 0, 1);
        nextLapseIs("the latest claim, to the lowest lot", x, 90, 4);
        EscheatLots y = new EscheatLots();
        Due.carry(y, "l10;l20;c1@1/1;t1;c1@0/1");
        nextLapseIs("an earlier day goes ahead of a lower lot", y, 89, 0);
        EscheatLots z = new EscheatLots();
        Due.carry(z, "l10;l20;c1@0/1;c2@1/1;t1;p0+1");
        nextLapseIs("an earlier day goes ahead of a lower claim", z, 89, 1);
    }

    static void promise20Errors() {
        EscheatLots x = Due.after(ChangesTest::sixClaims);
        Due.due("20: nextLapse(2)", x.nextLapse(2), Due.BAD_VALUE);
        Due.due("20: a bad value goes ahead of none", new EscheatLots().nextLapse(2), Due.BAD_VALUE);
        for (int far : Due.FAR) {
            Due.due("20: nextLapse(" + far + ")", x.nextLapse(far), Due.BAD_VALUE);
        }
    }
}
