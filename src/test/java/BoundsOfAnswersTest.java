/** The bounds that promises 11 to 20 name. A question changes nothing, whether it is answered or refused. */
public final class BoundsOfAnswersTest {
    public static void main(String[] args) {
        States.check();
        promise11WhatOfLots();
        promise11Refused();
        promise11Sets();
        promise11DaysAndLines();
        promise12WhatOfClaims();
        promise12Refused();
        promise13Heirs();
        promise13Refused();
        promise14Ranks();
        promise14Refused();
        promise15Numbers();
        promise15Refused();
        promise16Order();
        promise16Refused();
        promise17Ends();
        promise17Refused();
        promise18Ways();
        promise18Refused();
        promise19Ends();
        promise19Refused();
        promise20Ends();
        promise20Refused();
        whatIfOnTheLastDay();
        Due.end();
    }

    private static void answered(String name, Due.Steps before, Due.Call call, int want) {
        Due.due(name, call.on(Due.after(before)), want);
        Due.changesNothing(name, before, call::on);
    }

    // ---- promise 11

    static void promise11WhatOfLots() {
        int[][] want = {
            {100, 0, 0, 0, (1 << States.OPEN) + (1 << States.UPHELD), 4 + 8 + 16 + 32 + 64, 2},
            {200, 1, 0, 0, 0, 0, Due.NONE},
            {300, 2, 0, 0, 0, 1, Due.NONE},
            {400, 3, 2, 1, 0, 0, Due.NONE},
            {500, 4, 2, 0, 0, 2, Due.NONE},
        };
        for (int lot : States.LOTS) {
            for (int what = 0; what <= 6; what++) {
                int which = what;
                answered("11: of(" + lot + ", " + what + ")", States::rich, x -> x.of(lot, which), want[lot][what]);
            }
        }
        EscheatLots x = Due.after(States::full);
        Due.due("11: the last lot of twelve", x.of(11, 0), 13);
        Due.due("11: the lot behind it", x.of(12, 0), Due.NO_SUCH);
    }

    static void promise11Refused() {
        Due.refused("11: of(5, 0)", States::rich, x -> x.of(States.RICH_LOTS, 0), Due.NO_SUCH);
        Due.refused("11: of(12, 6)", States::full, x -> x.of(12, 6), Due.NO_SUCH);
        for (int what : new int[] {-1, 7, 8, Integer.MIN_VALUE, Integer.MAX_VALUE}) {
            for (int lot : States.LOTS) {
                Due.refused("11: of(" + lot + ", " + what + ")", States::rich, x -> x.of(lot, what), Due.BAD_VALUE);
            }
            Due.refused("11: of(5, " + what + ")", States::rich, x -> x.of(States.RICH_LOTS, what), Due.NO_SUCH);
            Due.refused("11: of(-1, " + what + ")", States::rich, x -> x.of(-1, what), Due.NO_SUCH);
            Due.refused("11: of(0, " + what + ") without lots", States::nothing, x -> x.of(0, what), Due.NO_SUCH);
        }
        for (int never : States.NEVER) {
            Due.refused("11: of(" + never + ", 0)", States::rich, x -> x.of(never, 0), Due.NO_SUCH);
            Due.refused("11: of(" + never + ", " + never + ")", States::rich, x -> x.of(never, never), Due.NO_SUCH);
        }
    }

    static void promise11Sets() {
        EscheatLots x = Due.after(States::full);
        int kept = (1 << 19) - 8;
        int noticed = (1 << 30) - (1 << 19);
        Due.due("11: claims 3 to 18 stand", x.of(States.KEPT, 4), kept);
        Due.due("11: claims 3 to 18", x.of(States.KEPT, 5), kept);
        Due.due("11: claims 19 to 29 stand", x.of(States.NOTICED, 4), noticed);
        Due.due("11: claims 19 to 29", x.of(States.NOTICED, 5), noticed);
        Due.due("11: claim 2", x.of(States.FALLEN, 4), 4);
        Due.due("11: none", x.of(11, 5), 0);
        x.withdraw(29);
        Due.due("11: claim 29 does not stand", x.of(States.NOTICED, 4), noticed - (1 << 29));
        Due.due("11: it is a claim yet", x.of(States.NOTICED, 5), noticed);
        x.decide(19);
        Due.due("11: nor does a refused one", x.of(States.NOTICED, 4), noticed - (1 << 29) - (1 << 19));
        Due.uphold(x, 20);
        Due.due("11: an upheld one does", x.of(States.NOTICED, 4), noticed - (1 << 29) - (1 << 19));
    }

    static void promise11DaysAndLines() {
        EscheatLots x = new EscheatLots();
        x.set(Due.TERM, 400);
        Due.carry(x, "l9;n0;t399");
        Due.due("11: the most counted days of one that is noticed", x.of(0, 2), 399);
        Due.due("11: it never fell", x.of(0, 3), 0);
        x.pass(1);
        Due.due("11: the most counted days", x.of(0, 2), 400);
        Due.due("11: on the day of its fall", x.of(0, 3), 0);
        States.toDay(x, 9999);
        Due.due("11: the most days since its fall", x.of(0, 3), 9599);
        Due.due("11: counted days stand still", x.of(0, 2), 400);
        EscheatLots y = Due.after(z -> z.lot(9));
        for (int line = 5; line >= 1; line--) {
            y.claim(line, 0, line);
            Due.due("11: an open one of line " + line, y.of(0, 6), line == 5 ? Due.NONE : line + 1);
            Due.uphold(y, 5 - line);
            Due.due("11: an upheld one of line " + line, y.of(0, 6), line);
        }
        for (int line = 1; line <= 5; line++) {
            y.withdraw(5 - line);
            Due.due("11: that of line " + line + " is withdrawn", y.of(0, 6), line == 5 ? Due.NONE : line + 1);
        }
    }

    // ---- promise 12

    static void promise12WhatOfClaims() {
        int[][] want = {
            {1, 2, 1, 99, 5, 0, 300},
            {2, 4, 1, 99, 5, 0, 475},
            {7, 0, 4, 0, 4, 1, 0},
            {3, 0, 1, 0, 0, 0, 0},
            {4, 0, 2, 60, 1, 0, 0},
            {5, 0, 3, 0, 2, 0, 0},
            {6, 0, 2, 0, 3, 0, 0},
        };
        for (int claim = 0; claim < States.RICH_CLAIMS; claim++) {
            for (int what = 0; what <= 6; what++) {
                int c = claim;
                int w = what;
                answered("12: ofClaim(" + c + ", " + w + ")", States::rich, x -> x.ofClaim(c, w), want[c][w]);
            }
        }
        EscheatLots x = Due.after(States::full);
        int[] last = {10, 1, 5, 0, 0, 0, 0};
        for (int what = 0; what <= 6; what++) {
            Due.due("12: the last of thirty, " + what, x.ofClaim(29, what), last[what]);
            Due.due("12: the one behind it, " + what, x.ofClaim(30, what), Due.NO_SUCH);
        }
    }

    static void promise12Refused() {
        Due.refused("12: ofClaim(7, 0)", States::rich, x -> x.ofClaim(States.RICH_CLAIMS, 0), Due.NO_SUCH);
        Due.refused("12: ofClaim(30, 6)", States::full, x -> x.ofClaim(30, 6), Due.NO_SUCH);
        for (int what : new int[] {-1, 7, 8, Integer.MIN_VALUE, Integer.MAX_VALUE}) {
            Due.refused("12: ofClaim(0, " + what + ")", States::rich, x -> x.ofClaim(0, what), Due.BAD_VALUE);
            Due.refused("12: ofClaim(6, " + what + ")", States::rich, x -> x.ofClaim(6, what), Due.BAD_VALUE);
            Due.refused("12: ofClaim(7, " + what + ")", States::rich, x -> x.ofClaim(7, what), Due.NO_SUCH);
            Due.refused("12: ofClaim(-1, " + what + ")", States::rich, x -> x.ofClaim(-1, what), Due.NO_SUCH);
            Due.refused("12: ofClaim(0, " + what + ") without claims", States::nothing, x -> x.ofClaim(0, what), Due.NO_SUCH);
        }
        for (int never : States.NEVER) {
            Due.refused("12: ofClaim(" + never + ", 0)", States::rich, x -> x.ofClaim(never, 0), Due.NO_SUCH);
            Due.refused("12: ofClaim of " + never + " twice", States::rich, x -> x.ofClaim(never, never), Due.NO_SUCH);
        }
    }

    // ---- promise 13

    static void promise13Heirs() {
        int[][] want = {{0, 0, 0, 0}, {300, 1, 0, 4}, {475, 2, 0, 16}, {0, 8, 8, 0}, {0, 16, 16, 0}, {0, 32, 0, 0},
            {0, 64, 0, 0}, {0, 4, 0, 0}, {0, 0, 0, 0}};
        for (int heir = 0; heir <= 15; heir++) {
            int[] row = want[Math.min(heir, 8)];
            for (int what = 0; what <= 3; what++) {
                int h = heir;
                int w = what;
                answered("13: heir(" + h + ", " + w + ")", States::rich, x -> x.heir(h, w), row[w]);
                answered("13: heir(" + h + ", " + w + ") without claims", States::nothing, x -> x.heir(h, w), 0);
            }
        }
        EscheatLots x = Due.after(States::full);
        Due.due("13: claims of heir 10", x.heir(10, 1), (1 << 13) + (1 << 29));
        Due.due("13: they stand", x.heir(10, 2), (1 << 13) + (1 << 29));
        Due.due("13: claims of heir 15", x.heir(15, 1), 1 << 18);
        x.withdraw(29);
        Due.due("13: one stands", x.heir(10, 2), 1 << 13);
        Due.due("13: both are claims", x.heir(10, 1), (1 << 13) + (1 << 29));
    }

    static void promise13Refused() {
        for (int what : new int[] {-1, 4, 5, Integer.MIN_VALUE, Integer.MAX_VALUE}) {
            Due.refused("13: heir(0, " + what + ")", States::rich, x -> x.heir(0, what), Due.BAD_VALUE);
            Due.refused("13: heir(15, " + what + ")", States::rich, x -> x.heir(15, what), Due.BAD_VALUE);
            Due.refused("13: heir(16, " + what + ")", States::rich, x -> x.heir(16, what), Due.NO_SUCH);
            Due.refused("13: heir(-1, " + what + ")", States::rich, x -> x.heir(-1, what), Due.NO_SUCH);
        }
        for (int what = 0; what <= 3; what++) {
            int w = what;
            Due.refused("13: heir(16, " + what + ")", States::rich, x -> x.heir(16, w), Due.NO_SUCH);
            Due.refused("13: heir(-1, " + what + ")", States::rich, x -> x.heir(-1, w), Due.NO_SUCH);
        }
        for (int never : States.NEVER) {
            Due.refused("13: heir(" + never + ", 0)", States::rich, x -> x.heir(never, 0), Due.NO_SUCH);
            Due.refused("13: heir of " + never + " twice", States::rich, x -> x.heir(never, never), Due.NO_SUCH);
        }
    }

    // ---- promise 14

    static void promise14Ranks() {
        answered("14: paid(0)", States::rich, x -> x.paid(0), 1);
        answered("14: paid(1)", States::rich, x -> x.paid(1), 2);
        EscheatLots x = new EscheatLots();
        Due.carry(x, "l1;l1;l2;c15@0/1;c0@0/1;p0+60;p1+60;d0;d1;s0");
        Due.due("14: a coin is enough", x.paid(0), 15);
        Due.due("14: no coin is not", x.paid(1), Due.NO_SUCH);
        Due.carry(x, "c15@1/1;c0@1/2;p2+60;p3+60;d2;d3;s1");
        Due.due("14: nor is a farther line", x.paid(1), Due.NO_SUCH);
        Due.carry(x, "c0@2/3;p4+60;d4;c15@2/3;p5+60;d5;s2");
        Due.due("14: the second one", x.paid(1), 0);
        Due.due("14: the first one is told once", x.paid(2), Due.NO_SUCH);
        Due.due("14: the first one stays the first", x.paid(0), 15);
    }

    static void promise14Refused() {
        Due.refused("14: paid(2)", States::rich, x -> x.paid(2), Due.NO_SUCH);
        Due.refused("14: paid(16)", States::rich, x -> x.paid(16), Due.NO_SUCH);
        Due.refused("14: paid(0) of nobody", States::nothing, x -> x.paid(0), Due.NO_SUCH);
        for (int never : States.NEVER) {
            Due.refused("14: paid(" + never + ")", States::rich, x -> x.paid(never), Due.NO_SUCH);
            Due.refused("14: paid(" + never + ") of nobody", States::nothing, x -> x.paid(never), Due.NO_SUCH);
        }
    }

    // ---- promise 15

    static void promise15Numbers() {
        int[] rich = {3, 5, 7, 1, 2, 4, 8, 16, 1500, 300, 425, 775, 24, 7, 2, 60, 90, 29, 5, 9, 6};
        int[] nothing = {0, 0, 0, 0, 0, 0, 0, 0, 0, 0, 0, 0, 0, 0, 366, 60, 90, 30, 5, 0, 0};
        int[] full = {3, 12, 30, 4095 - 30, 2, 4, 8, 16, 486, 486 - 30 - 40 - 50, 40 + 2, 30 + 48, (1 << 30) - 4, 16,
            2, 60, 90, 0, 5, 80, 6};
        for (int what = 0; what <= 20; what++) {
            int w = what;
            answered("15: count(" + w + ")", States::rich, x -> x.count(w), rich[w]);
            answered("15: count(" + w + ") of nothing", States::nothing, x -> x.count(w), nothing[w]);
            answered("15: count(" + w + ") of all", States::full, x -> x.count(w), full[w]);
        }
        answered("15: the day, the last one", States::lastDay, x -> x.count(0), 9999);
    }

    static void promise15Refused() {
        for (int what : new int[] {-1, 21, 22, Integer.MIN_VALUE, Integer.MAX_VALUE, -20, 1 << 30}) {
            Due.refused("15: count(" + what + ")", States::rich, x -> x.count(what), Due.BAD_VALUE);
            Due.refused("15: count(" + what + ") of nothing", States::nothing, x -> x.count(what), Due.BAD_VALUE);
        }
    }

    // ---- promise 16

    static void whyIs(String name, Due.Steps before, int lot, int want) {
        answered("16: " + name, before, x -> x.why(lot), want);
    }

    private static Due.Steps richThen(String text) {
        return x -> {
            States.rich(x);
            Due.carry(x, text);
        };
    }

    static void promise16Order() {
        for (int lot : States.LOTS) {
            whyIs("why(" + lot + ")", States::rich, lot, lot == States.NOTICED ? 0 : 1);
        }
        whyIs("noticed, one open, one upheld", richThen("n0"), States.KEPT, 2);
        whyIs("noticed, one upheld", richThen("n0;w3"), States.KEPT, 3);
        whyIs("noticed, one open", richThen("n0;w4"), States.KEPT, 2);
        whyIs("noticed, none stands", richThen("n0;w3;w4"), States.KEPT, 0);
        whyIs("kept, none stands", richThen("w3;w4"), States.KEPT, 1);
        whyIs("fallen, one open", richThen("c8@3/1"), States.FALLEN, 1);
        whyIs("the last lot", x -> {
            for (int lot = 0; lot < 12; lot++) {
                x.lot(1);
            }
            x.notice(11);
        }, 11, 0);
    }

    static void promise16Refused() {
        Due.refused("16: why(5)", States::rich, x -> x.why(States.RICH_LOTS), Due.NO_SUCH);
        Due.refused("16: why(12)", States::full, x -> x.why(12), Due.NO_SUCH);
        for (int never : States.NEVER) {
            Due.refused("16: why(" + never + ")", States::rich, x -> x.why(never), Due.NO_SUCH);
        }
    }

    // ---- promise 17

    private static Due.Steps noticed(int term, int lapse, String text) {
        return x -> {
            x.set(Due.TERM, term);
            x.set(Due.LAPSE, lapse);
            Due.carry(x, "l7;n0");
            if (!text.isEmpty()) {
                Due.carry(x, text);
            }
        };
    }

    /** Tells when lot 0 falls, and passes these days to see that it is so. */
    static void fallsOn(String name, Due.Steps before, int days) {
        answered("17: " + name, before, x -> x.fallsIn(0), days);
        answered("19: " + name, before, x -> x.nextFall(1), days);
        answered("19: " + name + ", the lot", before, x -> x.nextFall(0), 0);
        EscheatLots x = Due.after(before);
        int falls = 0;
        for (int left = days - 1; left > 0; left -= 400) {
            falls += x.pass(Math.min(left, 400));
        }
        Due.due("17: " + name + ", a day ahead", falls, 0);
        Due.due("17: " + name + ", on the day", x.pass(1), 1);
    }

    static void promise17Ends() {
        fallsOn("TERM of 1", noticed(1, 90, ""), 1);
        fallsOn("TERM of 400", noticed(400, 90, ""), 400);
        fallsOn("TERM of 400, a day ahead", noticed(400, 90, "t399"), 1);
        fallsOn("TERM of 1, LAPSE of 1", noticed(1, 1, "c1@0/1"), 1);
        fallsOn("TERM of 1, LAPSE of 2", noticed(1, 2, "c1@0/1"), 2);
        fallsOn("TERM of 2, LAPSE of 1", noticed(2, 1, "c1@0/1"), 2);
        fallsOn("TERM of 1, LAPSE of 200", noticed(1, 200, "c1@0/1"), 200);
        fallsOn("TERM of 1, LAPSE of 200, a day ahead", noticed(1, 200, "c1@0/1;t199"), 1);
        fallsOn("TERM of 400, LAPSE of 1", noticed(400, 1, "c1@0/1"), 400);
        fallsOn("the farthest day", noticed(400, 200, "c1@0/1"), 599);
        fallsOn("the farthest day, a day later", noticed(400, 200, "c1@0/1;t1"), 598);
        fallsOn("claims of all heirs", noticed(400, 200, "c1@0/1;t5;c2@0/1;t5;c3@0/1;c15@0/5;p1+1"), 599);
        fallsOn("TERM less than what is counted", x -> {
            noticed(400, 90, "t300").on(x);
            x.set(Due.TERM, 1);
        }, 1);
        fallsOn("LAPSE less than what it waited", x -> {
            noticed(1, 200, "c1@0/1;t150").on(x);
            x.set(Due.LAPSE, 1);
        }, 1);
        fallsOn("BACK and FEE have no say", x -> {
            noticed(3, 90, "").on(x);
            x.set(Due.BACK, 0);
            x.set(Due.FEE, 50);
        }, 3);
    }

    static void promise17Refused() {
        for (int lot : States.LOTS) {
            if (lot != States.NOTICED) {
                Due.refused("17: fallsIn(" + lot + ")", States::rich, x -> x.fallsIn(lot), Due.NOT_POSSIBLE);
            }
        }
        Due.refused("17: kept, one upheld", richThen("w3"), x -> x.fallsIn(States.KEPT), Due.NOT_POSSIBLE);
        Due.refused("17: fallsIn(5)", States::rich, x -> x.fallsIn(States.RICH_LOTS), Due.NO_SUCH);
        Due.refused("17: fallsIn(12)", States::full, x -> x.fallsIn(12), Due.NO_SUCH);
        for (int never : States.NEVER) {
            Due.refused("17: fallsIn(" + never + ")", States::rich, x -> x.fallsIn(never), Due.NO_SUCH);
        }
        answered("17: one upheld", richThen("n0;w3"), x -> x.fallsIn(States.KEPT), Due.NONE);
        answered("17: one upheld, one open", richThen("n0"), x -> x.fallsIn(States.KEPT), Due.NONE);
        answered("17: one upheld, a day ahead of the fall", noticed(2, 90, "t1;c1@0/1;p0+60;d0"), x -> x.fallsIn(0), Due.NONE);
    }

    // ---- promise 18

    static void promise18Ways() {
        answered("18: the open one is refused", States::rich, x -> x.share(0, 3, 0), 0);
        answered("18: the upheld one gets all", States::rich, x -> x.share(0, 4, 0), 100);
        answered("18: the open one is upheld, and nearer", States::rich, x -> x.share(0, 3, 1), 100);
        answered("18: the upheld one is farther", States::rich, x -> x.share(0, 4, 1), 0);
        for (int way = 0; way <= 1; way++) {
            int w = way;
            answered("18: a refused one, way " + w, States::rich, x -> x.share(0, 5, w), 0);
            answered("18: a withdrawn one, way " + w, States::rich, x -> x.share(0, 6, w), 0);
            answered("18: a lapsed one, way " + w, States::rich, x -> x.share(0, 7, w), 0);
            answered("18: no claim, way " + w, States::rich, x -> x.share(0, 15, w), 0);
            answered("18: no claim, way " + w, States::rich, x -> x.share(0, 0, w), 0);
            answered("18: a lot without claims, way " + w, States::rich, x -> x.share(1, 3, w), 0);
            answered("18: a fallen lot without claims, way " + w, States::rich, x -> x.share(3, 3, w), 0);
        }
        answered("18: fallen, open", richThen("c8@3/5"), x -> x.share(3, 8, 1), 380);
        answered("18: fallen, refused", richThen("c8@3/5"), x -> x.share(3, 8, 0), 0);
        EscheatLots x = new EscheatLots();
        x.lot(17);
        for (int claim = 0; claim < 16; claim++) {
            x.claim(15 - claim, 0, 5);
            int parts = claim + 1;
            Due.due("18: among " + parts + ", the first", x.share(0, 15, 1), 17 / parts + (17 % parts > 0 ? 1 : 0));
            Due.due("18: among " + parts + ", the last", x.share(0, 15 - claim, 1), 17 / parts);
        }
        EscheatLots y = Due.after(z -> Due.carry(z, "l1;c0@0/1;c1@0/1"));
        Due.due("18: the only coin", y.share(0, 0, 1), 1);
        Due.due("18: no coin is left", y.share(0, 1, 1), 0);
    }

    static void refusedShare(String name, Due.Steps before, int lot, int heir, int way, int error) {
        Due.refused("18: " + name + ", share(" + lot + ", " + heir + ", " + way + ")", before,
            x -> x.share(lot, heir, way), error);
    }

    static void promise18Refused() {
        for (int way = 0; way <= 1; way++) {
            refusedShare("given", States::rich, States.GIVEN, 1, way, Due.NOT_POSSIBLE);
            refusedShare("returned", States::rich, States.RETURNED, 2, way, Due.NOT_POSSIBLE);
            refusedShare("no such lot", States::rich, States.RICH_LOTS, 0, way, Due.NO_SUCH);
            refusedShare("no such heir", States::rich, 0, 16, way, Due.NO_SUCH);
            refusedShare("no such heir", States::rich, 0, -1, way, Due.NO_SUCH);
            refusedShare("no such heir, given", States::rich, States.GIVEN, 16, way, Due.NO_SUCH);
            refusedShare("no such heir, returned", States::rich, States.RETURNED, -1, way, Due.NO_SUCH);
            refusedShare("no lots", States::nothing, 0, 0, way, Due.NO_SUCH);
        }
        for (int way : new int[] {-1, 2, 3, Integer.MIN_VALUE, Integer.MAX_VALUE}) {
            refusedShare("a bad way", States::rich, 0, 3, way, Due.BAD_VALUE);
            refusedShare("a bad way, given", States::rich, States.GIVEN, 1, way, Due.BAD_VALUE);
            refusedShare("a bad way, returned", States::rich, States.RETURNED, 2, way, Due.BAD_VALUE);
            refusedShare("a bad way, no such lot", States::rich, 5, 0, way, Due.NO_SUCH);
            refusedShare("a bad way, no such heir", States::rich, 0, 16, way, Due.NO_SUCH);
            refusedShare("a bad way, no lots", States::nothing, 0, 0, way, Due.NO_SUCH);
        }
        for (int never : States.NEVER) {
            refusedShare("no such lot", States::rich, never, 0, 0, Due.NO_SUCH);
            refusedShare("no such heir", States::rich, 0, never, 0, Due.NO_SUCH);
            refusedShare("all of it", States::rich, never, never, never, Due.NO_SUCH);
        }
    }

    // ---- promise 19

    static void nextFallIs(String name, Due.Steps before, int lot, int days) {
        answered("19: " + name + ", the lot", before, x -> x.nextFall(0), lot);
        answered("19: " + name + ", the days", before, x -> x.nextFall(1), days);
    }

    static void promise19Ends() {
        nextFallIs("no lots", States::nothing, Due.NONE, Due.NONE);
        nextFallIs("one is noticed", States::rich, States.NOTICED, 2);
        nextFallIs("none is noticed", x -> Due.carry(x, "l1;l2"), Due.NONE, Due.NONE);
        nextFallIs("the one is upheld", richThen("c1@1/1;p7+60;d7"), Due.NONE, Due.NONE);
        nextFallIs("the one is open", richThen("c1@1/1"), States.NOTICED, 91);
        nextFallIs("of one day the lowest", x -> Due.carry(x, "l1;l2;l3;n2;n1"), 1, 366);
        nextFallIs("a day ahead of a lower one", x -> Due.carry(x, "l1;l2;l3;n2;t1;n1;n0"), 2, 365);
        nextFallIs("of one day by a lapse", x -> Due.carry(x, "l1;l2;n1;n0;t1;c1@1/1;c2@0/1;p0+9"), 0, 89 + 365);
        nextFallIs("the lowest lapses a day later", x -> Due.carry(x, "l1;l2;n1;n0;c1@1/1;c2@0/1;t1;p1+9"), 1, 88 + 366);
        nextFallIs("lot 11", x -> {
            for (int lot = 0; lot < 12; lot++) {
                x.lot(1);
            }
            x.notice(11);
        }, 11, 366);
        nextFallIs("all have fallen", noticed(1, 90, "t1"), Due.NONE, Due.NONE);
    }

    static void promise19Refused() {
        for (int what : new int[] {-1, 2, 3, Integer.MIN_VALUE, Integer.MAX_VALUE}) {
            Due.refused("19: nextFall(" + what + ")", States::rich, x -> x.nextFall(what), Due.BAD_VALUE);
            Due.refused("19: nextFall(" + what + ") of none", States::nothing, x -> x.nextFall(what), Due.BAD_VALUE);
        }
    }

    // ---- promise 20

    static void nextLapseIs(String name, Due.Steps before, int days, int claim) {
        answered("20: " + name + ", the days", before, x -> x.nextLapse(0), days);
        answered("20: " + name + ", the claim", before, x -> x.nextLapse(1), claim);
        if (days > 0) {
            EscheatLots x = Due.after(before);
            if (days > 1) {
                x.pass(days - 1);
            }
            Due.due("20: " + name + ", a day ahead", x.ofClaim(claim, 4), 0);
            x.pass(1);
            Due.due("20: " + name + ", on the day", x.ofClaim(claim, 4), 4);
        }
    }

    static void promise20Ends() {
        nextLapseIs("no claims", States::nothing, Due.NONE, Due.NONE);
        nextLapseIs("one is open", States::rich, 90, States.OPEN);
        nextLapseIs("none is open", richThen("w3"), Due.NONE, Due.NONE);
        nextLapseIs("thirty", States::full, 89, 2);
        nextLapseIs("the latest, of the lowest lot", x -> {
            for (int claim = 0; claim < 2; claim++) {
                x.lot(9);
            }
            for (int claim = 0; claim < 29; claim++) {
                x.claim(claim % 16, 1, 1);
                if (claim < 16) {
                    x.withdraw(claim);
                }
            }
            x.claim(0, 0, 1);
        }, 90, 29);
        for (int lapse : new int[] {1, 2, 199, 200}) {
            Due.Steps one = x -> {
                x.set(Due.LAPSE, lapse);
                Due.carry(x, "l9;c1@0/1");
            };
            nextLapseIs("LAPSE of " + lapse, one, lapse, 0);
        }
        nextLapseIs("LAPSE as long as it waited", x -> {
            Due.carry(x, "l9;c1@0/1;t50");
            x.set(Due.LAPSE, 50);
        }, 1, 0);
        nextLapseIs("LAPSE less than what it waited", x -> {
            Due.carry(x, "l9;c1@0/1;t50");
            x.set(Due.LAPSE, 1);
        }, 1, 0);
        nextLapseIs("both have waited too long", x -> {
            Due.carry(x, "l9;l9;c1@1/1;t10;c1@0/1;t20");
            x.set(Due.LAPSE, 5);
        }, 1, 1);
        nextLapseIs("to a kept lot", x -> Due.carry(x, "l9;l9;n1;c1@0/1;t1;c1@1/1"), 89, 0);
    }

    static void promise20Refused() {
        for (int what : new int[] {-1, 2, 3, Integer.MIN_VALUE, Integer.MAX_VALUE}) {
            Due.refused("20: nextLapse(" + what + ")", States::rich, x -> x.nextLapse(what), Due.BAD_VALUE);
            Due.refused("20: nextLapse(" + what + ") of none", States::nothing, x -> x.nextLapse(what), Due.BAD_VALUE);
        }
    }

    /** For what-ifs the bound of the day does not matter. */
    static void whatIfOnTheLastDay() {
        answered("16: on the last day", States::lastDay, x -> x.why(1), 0);
        answered("17: on the last day, one open", States::lastDay, x -> x.fallsIn(0), 89 + 357);
        answered("17: on the last day", States::lastDay, x -> x.fallsIn(1), 357);
        answered("17: on the last day, one upheld", States::lastDay, x -> x.fallsIn(2), Due.NONE);
        answered("19: on the last day, the lot", States::lastDay, x -> x.nextFall(0), 1);
        answered("19: on the last day, the days", States::lastDay, x -> x.nextFall(1), 357);
        answered("20: on the last day, the days", States::lastDay, x -> x.nextLapse(0), 90);
        answered("20: on the last day, the claim", States::lastDay, x -> x.nextLapse(1), 0);
        answered("18: on the last day", States::lastDay, x -> x.share(2, 2, 0), 30);
    }
}
