/** Objects on which the bounds are tried: with nothing, with something of each kind, with no room left, on the last day. */
final class States {
    /** Lots of rich() and of full(), by how they are. */
    static final int KEPT = 0, NOTICED = 1, GIVEN = 2, FALLEN = 3, RETURNED = 4;
    static final int[] LOTS = {KEPT, NOTICED, GIVEN, FALLEN, RETURNED};

    /** Claims of rich(), by how they are; all but the settled ones are to the kept lot. */
    static final int SETTLED = 0, LAPSED = 2, OPEN = 3, UPHELD = 4, REFUSED = 5, WITHDRAWN = 6;

    /** How many lots and claims rich() has: the least numbers that there are not. */
    static final int RICH_LOTS = 5, RICH_CLAIMS = 7;

    /** Numbers that are no number of anything: the nearest ones below, and those far outside. */
    static final int[] NEVER = {-1, -2, Integer.MIN_VALUE, Integer.MIN_VALUE + 1, Integer.MAX_VALUE - 1, Integer.MAX_VALUE};

    private States() {
    }

    static void nothing(EscheatLots x) {
        Due.due("a new object has no lots", x.count(1), 0);
    }

    /**
     * On day 3: lots 0 to 4 are kept, noticed, given, fallen (for a day) and returned; claims 0 and 1 are settled,
     * 2 is lapsed, 3 open, 4 upheld, 5 refused, 6 withdrawn, of the heirs 1, 2, 7, 3, 4, 5, 6. The slots differ, the
     * history is full, and the pad holds a text without a fault.
     */
    static void rich(EscheatLots x) {
        x.set(Due.TERM, 2);
        Due.carry(x, "l100;l200;l300;l400;l500;c1@2/1;p0+99;d0;s2;n3;n4;t2");
        x.save(0);
        Due.carry(x, "c2@4/1;p1+99;d1;s4;c7@0/4");
        x.set(Due.LAPSE, 1);
        x.pass(1);
        x.set(Due.LAPSE, 90);
        Due.carry(x, "n1;c3@0/1;c4@0/2;c5@0/3;c6@0/2;p4+60;d4;d5;w6");
        x.save(1);
        x.notice(KEPT);
        x.undo();
        x.set(Due.BACK, 29);
        Due.putText(x, "t3;l77;w4");
    }

    /**
     * Twelve lots, of which 0 to 4 are as those of rich() and 5 to 11 are kept; thirty claims; a full pad and a full
     * history. Lot 3 fell more than BACK days ago. All heirs have an open claim to lot 0, heirs 0 to 10 to lot 1,
     * heir 5 to lot 3.
     */
    static void full(EscheatLots x) {
        x.set(Due.TERM, 2);
        Due.carry(x, "l10;l20;l30;l40;l50;l60;l70;l80;l90;l11;l12;l13;c1@2/1;p0+99;d0;s2;n3;n4;t2");
        x.save(1);
        Due.carry(x, "c2@4/1;p1+99;d1;s4;c5@3/1;t1;n1");
        x.set(Due.BACK, 0);
        for (int claim = 3; claim < 30; claim++) {
            x.claim(claim < 19 ? claim - 3 : claim - 19, claim < 19 ? KEPT : NOTICED, 1 + claim % 5);
        }
        StringBuilder text = new StringBuilder("t1");
        while (text.length() < 80) {
            text.append(";t1");
        }
        Due.putText(x, text.toString());
    }

    /** Lets days pass up to a day, from day 0 in 25 calls at most. */
    static void toDay(EscheatLots x, int day) {
        int left = day - x.count(0);
        for (int calls = 0; left > 0 && calls < 25; calls++) {
            x.pass(Math.min(left, 400));
            left -= 400;
        }
        Due.due("the day of a state", x.count(0), day);
    }

    /** The last day, with a noticed lot that has an open claim, one that is free, and one that is upheld. */
    static void lastDay(EscheatLots x) {
        toDay(x, 9990);
        Due.carry(x, "l10;l20;l30;n0;n1;n2;t9;c1@0/1;c2@2/1;p1+60;d1");
        x.save(0);
        Due.putText(x, "l5;t1");
    }

    static void check() {
        EscheatLots x = Due.after(States::rich);
        int[] claims = {5, 5, 4, 0, 1, 2, 3};
        for (int lot : LOTS) {
            Due.due("rich: how lot " + lot + " is", x.of(lot, 1), lot);
        }
        for (int claim = 0; claim < RICH_CLAIMS; claim++) {
            Due.due("rich: how claim " + claim + " is", x.ofClaim(claim, 4), claims[claim]);
        }
        Due.due("rich: lots", x.count(1), RICH_LOTS);
        Due.due("rich: claims", x.count(2), RICH_CLAIMS);
        Due.due("rich: history", x.count(20), 6);
        Due.due("rich: the pad", x.fault(), Due.NONE);
        EscheatLots y = Due.after(States::full);
        for (int lot = 0; lot < 12; lot++) {
            Due.due("full: how lot " + lot + " is", y.of(lot, 1), lot < 5 ? lot : 0);
        }
        Due.due("full: lots", y.count(1), 12);
        Due.due("full: claims", y.count(2), 30);
        Due.due("full: history", y.count(20), 6);
        Due.due("full: the pad", y.count(19), 80);
        Due.due("full: it has no fault", y.fault(), Due.NONE);
        Due.due("full: days since the fall", y.of(FALLEN, 3), 1);
        EscheatLots z = Due.after(States::lastDay);
        Due.due("lastDay: the day", z.count(0), 9999);
        Due.due("lastDay: noticed", z.count(4), 7);
        Due.due("lastDay: claims that stand", z.count(12), 3);
    }
}
