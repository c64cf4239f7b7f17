/** The bounds that promises 1 to 10 name: both sides of each, each error alone, and two at once. */
public final class BoundsOfChangesTest {
    private static final int[] LEAST = {1, 1, 1, 0, 0};
    private static final int[] MOST = {400, 100, 200, 400, 50};
    private static final int[] AT_FIRST = {366, 60, 90, 30, 5};

    public static void main(String[] args) {
        States.check();
        promise1NothingThere();
        promise1ChangesOfNothing();
        promise2Ranges();
        promise2Refused();
        promise2TermAtItsEnds();
        promise2ProofAtItsEnds();
        promise2LapseAtItsEnds();
        promise2BackAtItsEnds();
        promise2FeeAtItsEnds();
        promise3Values();
        promise3TwelveLots();
        promise4Lots();
        promise4Refused();
        promise5Ranges();
        promise5Refused();
        promise5NotPossible();
        promise5ThirtyClaims();
        promise5AnHeirOnceALot();
        promise6Points();
        promise6Refused();
        promise6WaitsAnew();
        promise7Refused();
        promise7Threshold();
        promise8HowManyStand();
        promise8Refused();
        promise9Refused();
        promise9OneCoin();
        promise9GreatestShares();
        promise9LinesAtTheirEnds();
        promise9FallenLots();
        promise10Ranges();
        promise10LastDay();
        promise10HowManyFall();
        promise10FallsOnTheLastDay();
        promise10TermAndLapseOfOneDay();
        promise10SinceTheFall();
        Due.end();
    }

    // ---- promise 1

    static void promise1NothingThere() {
        EscheatLots x = new EscheatLots();
        for (int what = 0; what <= 6; what++) {
            Due.due("1: of(0, " + what + ")", x.of(0, what), Due.NO_SUCH);
            Due.due("1: ofClaim(0, " + what + ")", x.ofClaim(0, what), Due.NO_SUCH);
        }
        Due.due("1: why(0)", x.why(0), Due.NO_SUCH);
        Due.due("1: fallsIn(0)", x.fallsIn(0), Due.NO_SUCH);
        Due.due("1: share(0, 0, 0)", x.share(0, 0, 0), Due.NO_SUCH);
        for (int what = 0; what <= 1; what++) {
            Due.due("1: nextFall(" + what + ")", x.nextFall(what), Due.NONE);
            Due.due("1: nextLapse(" + what + ")", x.nextLapse(what), Due.NONE);
        }
        Due.due("1: paid(0)", x.paid(0), Due.NO_SUCH);
        Due.due("1: fault()", x.fault(), 0);
        Due.due("1: wipe()", x.wipe(), 0);
        Due.due("1: carryOut()", x.carryOut(), Due.BAD_TEXT);
        Due.due("1: undo()", x.undo(), Due.NOT_POSSIBLE);
        Due.due("1: count(20)", x.count(20), 0);
    }

    static void promise1ChangesOfNothing() {
        Due.refused("4: notice(0) without lots", States::nothing, x -> x.notice(0), Due.NO_SUCH);
        Due.refused("5: claim(0, 0, 1) without lots", States::nothing, x -> x.claim(0, 0, 1), Due.NO_SUCH);
        Due.refused("5: claim(0, 0, 0) without lots", States::nothing, x -> x.claim(0, 0, 0), Due.NO_SUCH);
        Due.refused("6: prove(0, 1) without claims", States::nothing, x -> x.prove(0, 1), Due.NO_SUCH);
        Due.refused("6: prove(0, 0) without claims", States::nothing, x -> x.prove(0, 0), Due.NO_SUCH);
        Due.refused("7: decide(0) without claims", States::nothing, x -> x.decide(0), Due.NO_SUCH);
        Due.refused("8: withdraw(0) without claims", States::nothing, x -> x.withdraw(0), Due.NO_SUCH);
        Due.refused("9: settle(0) without lots", States::nothing, x -> x.settle(0), Due.NO_SUCH);
        Due.refused("25: undo() without changes", States::nothing, x -> x.undo(), Due.NOT_POSSIBLE);
        Due.refused("27: restore(0) of nothing", States::nothing, x -> x.restore(0), Due.NOT_POSSIBLE);
        Due.refused("27: restore(1) of nothing", States::nothing, x -> x.restore(1), Due.NOT_POSSIBLE);
        EscheatLots x = new EscheatLots();
        Due.due("10: pass(1) without lots", x.pass(1), 0);
        Due.due("26: save(0) without lots", x.save(0), 0);
        Due.due("27: restore(0) without lots", x.restore(0), 0);
        EscheatLots y = Due.after(z -> z.lot(5));
        Due.due("5: a lot without claims", y.of(0, 5), 0);
        Due.due("9: settle(0) without claims", y.settle(0), Due.NOT_POSSIBLE);
        Due.due("12: ofClaim(0, 0) without claims", y.ofClaim(0, 0), Due.NO_SUCH);
    }

    // ---- promise 2

    static void promise2Ranges() {
        for (int setting = 0; setting < 5; setting++) {
            for (int value : new int[] {LEAST[setting], LEAST[setting] + 1, MOST[setting] - 1, MOST[setting]}) {
                EscheatLots x = new EscheatLots();
                String name = "2: set(" + setting + ", " + value + ")";
                Due.due(name, x.set(setting, value), AT_FIRST[setting]);
                Due.due(name + ", the value", x.count(14 + setting), value);
                Due.due(name + " again", x.set(setting, value), value);
            }
        }
    }

    static void promise2Refused() {
        for (int setting = 0; setting < 5; setting++) {
            int which = setting;
            int[] bad = {LEAST[setting] - 1, MOST[setting] + 1, -1, -400, Integer.MIN_VALUE, Integer.MAX_VALUE};
            for (int value : bad) {
                String name = "2: set(" + setting + ", " + value + ")";
                Due.refused(name, States::rich, x -> x.set(which, value), Due.BAD_VALUE);
                Due.refused(name, States::nothing, x -> x.set(which, value), Due.BAD_VALUE);
            }
        }
        for (int never : States.NEVER) {
            Due.refused("2: set(" + never + ", 10)", States::rich, x -> x.set(never, 10), Due.BAD_VALUE);
            Due.refused("2: set(" + never + ", " + never + ")", States::rich, x -> x.set(never, never), Due.BAD_VALUE);
        }
        Due.refused("2: set(5, 10)", States::rich, x -> x.set(5, 10), Due.BAD_VALUE);
        Due.refused("2: set(5, 0)", States::rich, x -> x.set(5, 0), Due.BAD_VALUE);
        EscheatLots x = new EscheatLots();
        x.set(Due.TERM, 401);
        x.set(Due.TERM, 0);
        Due.due("2: the previous value is none that was refused", x.set(Due.TERM, 7), 366);
    }

    /** With a setting as the limit, a lot that has been noticed falls on the last of so many days. */
    static void fallsWith(int term, EscheatLots x) {
        Due.carry(x, "l10;n0");
        String name = "2: TERM of " + term;
        Due.due(name + ", fallsIn", x.fallsIn(0), term);
        if (term > 1) {
            Due.due(name + ", one day less", x.pass(term - 1), 0);
            Due.due(name + ", one day less, counted", x.of(0, 2), term - 1);
            Due.due(name + ", one day less, it is noticed", x.of(0, 1), 1);
        }
        Due.due(name + ", the day", x.pass(1), 1);
        Due.due(name + ", counted", x.of(0, 2), term);
        Due.due(name + ", it has fallen", x.of(0, 1), 3);
    }

    static void promise2TermAtItsEnds() {
        fallsWith(366, new EscheatLots());
        for (int term : new int[] {1, 2, 399, 400}) {
            fallsWith(term, Due.after(x -> x.set(Due.TERM, term)));
        }
    }

    static void upheldWith(int proof, EscheatLots x) {
        Due.carry(x, "l10;c0@0/1;c1@0/1;c2@0/1");
        String name = "2: PROOF of " + proof;
        if (proof > 1) {
            x.prove(0, proof - 1);
        }
        Due.due(name + ", one less", x.decide(0), 2);
        x.prove(1, proof);
        Due.due(name + ", as much", x.decide(1), 1);
        x.prove(2, 100);
        Due.due(name + ", all", x.decide(2), 1);
    }

    static void promise2ProofAtItsEnds() {
        upheldWith(60, new EscheatLots());
        for (int proof : new int[] {1, 2, 99, 100}) {
            upheldWith(proof, Due.after(x -> x.set(Due.PROOF, proof)));
        }
    }

    static void lapsesWith(int lapse, EscheatLots x) {
        Due.carry(x, "l10;c0@0/1");
        String name = "2: LAPSE of " + lapse;
        Due.due(name + ", nextLapse", x.nextLapse(0), lapse);
        if (lapse > 1) {
            x.pass(lapse - 1);
            Due.due(name + ", one day less", x.ofClaim(0, 4), 0);
            Due.due(name + ", one day less, it waits", x.ofClaim(0, 5), lapse - 1);
        }
        x.pass(1);
        Due.due(name + ", the day", x.ofClaim(0, 4), 4);
        Due.due(name + ", it waited", x.ofClaim(0, 5), lapse);
        x.pass(1);
        Due.due(name + ", a day later", x.ofClaim(0, 5), lapse);
    }

    static void promise2LapseAtItsEnds() {
        lapsesWith(90, new EscheatLots());
        for (int lapse : new int[] {1, 2, 199, 200}) {
            lapsesWith(lapse, Due.after(x -> x.set(Due.LAPSE, lapse)));
        }
    }

    /** Lot 0 fell some days ago, lot 1 is kept; a BACK of 30 is left as it is at first. */
    static Due.Steps fellAgo(int days, int back) {
        return x -> {
            if (back != 30) {
                x.set(Due.BACK, back);
            }
            x.set(Due.TERM, 1);
            Due.carry(x, "l10;l20;n0;t1");
            for (int left = days; left > 0; left -= 400) {
                x.pass(Math.min(left, 400));
            }
        };
    }

    static void promise2BackAtItsEnds() {
        for (int back : new int[] {0, 1, 29, 30, 31, 399, 400}) {
            String name = "2: BACK of " + back;
            Due.due(name + ", on the day of its fall", Due.after(fellAgo(0, back)).claim(0, 0, 1), 0);
            EscheatLots x = Due.after(fellAgo(back, back));
            Due.due(name + ", days since the fall", x.of(0, 3), back);
            Due.due(name + ", so many days behind it", x.claim(0, 0, 1), 0);
            Due.refused(name + ", one day later", fellAgo(back + 1, back), y -> y.claim(0, 0, 1), Due.NOT_POSSIBLE);
            Due.due(name + ", one day later, one that is kept", Due.after(fellAgo(back + 1, back)).claim(0, 1, 1), 0);
        }
        Due.refused("2: BACK, long ago", fellAgo(9000, 400), y -> y.claim(0, 0, 1), Due.NOT_POSSIBLE);
        EscheatLots x = new EscheatLots();
        x.set(Due.BACK, 0);
        Due.carry(x, "l10;l20;n1;t9");
        Due.due("5: BACK has no say over one that is kept", x.claim(0, 0, 1), 0);
        Due.due("5: nor over one that is noticed", x.claim(0, 1, 1), 1);
    }

    static void keptWith(int fee, int value, int kept) {
        EscheatLots x = new EscheatLots();
        x.set(Due.TERM, 1);
        if (fee != 5) {
            x.set(Due.FEE, fee);
        }
        x.lot(value);
        Due.carry(x, "n0;t1;c0@0/1;p0+60;d0");
        String name = "2: FEE of " + fee + ", value " + value;
        Due.due(name + ", the crown has it", x.count(10), value);
        Due.due(name + ", share", x.share(0, 0, 0), value - kept);
        Due.due(name + ", settle", x.settle(0), 1);
        Due.due(name + ", the crown keeps", x.count(10), kept);
        Due.due(name + ", the heir gets", x.heir(0, 0), value - kept);
        Due.due(name + ", of it", x.ofClaim(0, 6), value - kept);
    }

    static void promise2FeeAtItsEnds() {
        int[][] rows = {{0, 1, 0}, {0, 9999, 0}, {1, 99, 0}, {1, 100, 1}, {1, 199, 1}, {1, 200, 2}, {5, 1, 0},
            {5, 19, 0}, {5, 20, 1}, {5, 39, 1}, {5, 40, 2}, {5, 9999, 499}, {49, 9999, 4899}, {50, 1, 0}, {50, 2, 1},
            {50, 3, 1}, {50, 9998, 4999}, {50, 9999, 4999}};
        for (int[] row : rows) {
            keptWith(row[0], row[1], row[2]);
        }
    }

    // ---- promise 3

    static void promise3Values() {
        for (int value : new int[] {1, 2, 9998, 9999}) {
            EscheatLots x = new EscheatLots();
            Due.due("3: lot(" + value + ")", x.lot(value), 0);
            Due.due("3: lot(" + value + "), its value", x.of(0, 0), value);
        }
        for (int value : new int[] {0, -1, -9999, 10000, 10001, 65537, Integer.MIN_VALUE, Integer.MAX_VALUE}) {
            Due.refused("3: lot(" + value + ")", States::rich, x -> x.lot(value), Due.BAD_VALUE);
            Due.refused("3: lot(" + value + ") without lots", States::nothing, x -> x.lot(value), Due.BAD_VALUE);
            Due.refused("3: lot(" + value + ") of twelve", States::full, x -> x.lot(value), Due.BAD_VALUE);
        }
    }

    static void elevenLots(EscheatLots x) {
        for (int lot = 0; lot < 11; lot++) {
            x.lot(9999);
        }
    }

    static void promise3TwelveLots() {
        EscheatLots x = Due.after(BoundsOfChangesTest::elevenLots);
        Due.due("3: the twelfth lot", x.lot(9999), 11);
        Due.due("3: the thirteenth", x.lot(9999), Due.TOO_MANY);
        Due.due("3: the value of all", x.count(8), 12 * 9999);
        Due.due("3: the twelfth one is undone", x.undo(), 5);
        Due.due("3: it comes again", x.lot(1), 11);
        Due.due("3: its value", x.of(11, 0), 1);
        for (int value : new int[] {1, 9999}) {
            Due.refused("3: lot(" + value + ") of twelve", States::full, y -> y.lot(value), Due.TOO_MANY);
        }
    }

    // ---- promise 4

    static void promise4Lots() {
        EscheatLots x = Due.after(BoundsOfChangesTest::elevenLots);
        Due.due("4: notice(11) of eleven", x.notice(11), Due.NO_SUCH);
        x.lot(1);
        Due.due("4: notice(11) of twelve", x.notice(11), 1);
        Due.due("4: notice(12) of twelve", x.notice(12), Due.NO_SUCH);
        Due.due("4: notice(0)", x.notice(0), 2);
        Due.due("4: noticed", x.count(4), 2049);
        for (int lot = 1; lot < 11; lot++) {
            Due.due("4: notice(" + lot + ")", x.notice(lot), lot + 2);
        }
        Due.due("4: all are noticed", x.count(4), 4095);
        Due.due("4: none is kept", x.count(3), 0);
        EscheatLots y = Due.after(States::rich);
        Due.due("4: beside one that is noticed", y.notice(States.KEPT), 2);
        Due.due("4: an open claim does not matter", y.of(States.KEPT, 1), 1);
    }

    static void promise4Refused() {
        for (int lot : States.LOTS) {
            if (lot != States.KEPT) {
                Due.refused("4: notice of a lot that is " + lot, States::rich, x -> x.notice(lot), Due.NOT_POSSIBLE);
            }
        }
        Due.refused("4: notice(5)", States::rich, x -> x.notice(States.RICH_LOTS), Due.NO_SUCH);
        Due.refused("4: notice(12)", States::full, x -> x.notice(12), Due.NO_SUCH);
        for (int never : States.NEVER) {
            Due.refused("4: notice(" + never + ")", States::rich, x -> x.notice(never), Due.NO_SUCH);
        }
    }

    // ---- promise 5

    static void promise5Ranges() {
        for (int heir : new int[] {0, 1, 14, 15}) {
            for (int line : new int[] {1, 2, 4, 5}) {
                EscheatLots x = Due.after(States::rich);
                String name = "5: claim(" + heir + ", 1, " + line + ")";
                Due.due(name, x.claim(heir, States.NOTICED, line), States.RICH_CLAIMS);
                Due.due(name + ", its heir", x.ofClaim(States.RICH_CLAIMS, 0), heir);
                Due.due(name + ", its lot", x.ofClaim(States.RICH_CLAIMS, 1), States.NOTICED);
                Due.due(name + ", its line", x.ofClaim(States.RICH_CLAIMS, 2), line);
                for (int what = 3; what <= 6; what++) {
                    Due.due(name + ", " + what, x.ofClaim(States.RICH_CLAIMS, what), 0);
                }
            }
        }
        EscheatLots x = Due.after(BoundsOfChangesTest::elevenLots);
        Due.due("5: to lot 11 of eleven", x.claim(0, 11, 1), Due.NO_SUCH);
        x.lot(1);
        Due.due("5: to lot 11 of twelve", x.claim(0, 11, 1), 0);
        Due.due("5: to lot 12 of twelve", x.claim(0, 12, 1), Due.NO_SUCH);
    }

    static void refusedClaim(String name, Due.Steps before, int heir, int lot, int line, int error) {
        Due.refused("5: " + name + ", claim(" + heir + ", " + lot + ", " + line + ")", before,
            x -> x.claim(heir, lot, line), error);
    }

    static void promise5Refused() {
        int far = Integer.MAX_VALUE;
        refusedClaim("no such heir", States::rich, 16, 0, 1, Due.NO_SUCH);
        refusedClaim("no such lot", States::rich, 0, States.RICH_LOTS, 1, Due.NO_SUCH);
        refusedClaim("neither", States::rich, 16, States.RICH_LOTS, 1, Due.NO_SUCH);
        refusedClaim("line 0", States::rich, 0, 0, 0, Due.BAD_VALUE);
        refusedClaim("line 6", States::rich, 0, 0, 6, Due.BAD_VALUE);
        for (int never : States.NEVER) {
            refusedClaim("no such heir", States::rich, never, 0, 1, Due.NO_SUCH);
            refusedClaim("no such lot", States::rich, 0, never, 1, Due.NO_SUCH);
            refusedClaim("a bad line", States::rich, 0, 0, never, Due.BAD_VALUE);
            refusedClaim("all of it", States::rich, never, never, never, Due.NO_SUCH);
        }
        refusedClaim("no such heir, a bad line", States::rich, 16, 0, 0, Due.NO_SUCH);
        refusedClaim("no such heir, a bad line", States::rich, -1, 0, 6, Due.NO_SUCH);
        refusedClaim("no such lot, a bad line", States::rich, 0, 5, 6, Due.NO_SUCH);
        refusedClaim("no such lot, a bad line", States::rich, 0, -1, far, Due.NO_SUCH);
        refusedClaim("no such heir, given", States::rich, 16, States.GIVEN, 1, Due.NO_SUCH);
        refusedClaim("no such heir, returned", States::rich, -1, States.RETURNED, 1, Due.NO_SUCH);
        refusedClaim("no such heir, too many", States::full, 16, States.KEPT, 1, Due.NO_SUCH);
        refusedClaim("no such lot, too many", States::full, 0, 12, 1, Due.NO_SUCH);
        refusedClaim("a bad line, too many", States::full, 0, 5, 0, Due.BAD_VALUE);
        refusedClaim("a bad line, too many", States::full, 0, 5, 6, Due.BAD_VALUE);
    }

    static void promise5NotPossible() {
        refusedClaim("given", States::rich, 9, States.GIVEN, 1, Due.NOT_POSSIBLE);
        refusedClaim("returned", States::rich, 9, States.RETURNED, 1, Due.NOT_POSSIBLE);
        refusedClaim("given, of its heir", States::rich, 1, States.GIVEN, 1, Due.NOT_POSSIBLE);
        refusedClaim("the heir's is open", States::rich, 3, States.KEPT, 5, Due.NOT_POSSIBLE);
        refusedClaim("the heir's is upheld", States::rich, 4, States.KEPT, 5, Due.NOT_POSSIBLE);
        refusedClaim("given, a bad line", States::rich, 9, States.GIVEN, 0, Due.BAD_VALUE);
        refusedClaim("returned, a bad line", States::rich, 9, States.RETURNED, 6, Due.BAD_VALUE);
        refusedClaim("the heir's is open, a bad line", States::rich, 3, States.KEPT, 6, Due.BAD_VALUE);
        refusedClaim("the heir's is upheld, a bad line", States::rich, 4, States.KEPT, 0, Due.BAD_VALUE);
        Due.Steps longAgo = x -> {
            States.rich(x);
            x.pass(29);
        };
        refusedClaim("fell too long ago", longAgo, 9, States.FALLEN, 1, Due.NOT_POSSIBLE);
        refusedClaim("fell too long ago, a bad line", longAgo, 9, States.FALLEN, 0, Due.BAD_VALUE);
        refusedClaim("fell too long ago, no such heir", longAgo, 16, States.FALLEN, 1, Due.NO_SUCH);
        EscheatLots x = Due.after(States::rich);
        Due.due("5: behind a lapse", x.claim(7, States.KEPT, 1), 7);
        Due.due("5: behind a refusal", x.claim(5, States.KEPT, 1), 8);
        Due.due("5: behind a withdrawal", x.claim(6, States.KEPT, 1), 9);
        Due.due("5: of an heir of another lot", x.claim(1, States.KEPT, 1), 10);
        Due.due("5: to another lot", x.claim(3, States.NOTICED, 1), 11);
        Due.due("5: to one that has fallen", x.claim(3, States.FALLEN, 1), 12);
    }

    static void promise5ThirtyClaims() {
        refusedClaim("too many", States::full, 0, 5, 1, Due.TOO_MANY);
        refusedClaim("too many", States::full, 15, 11, 5, Due.TOO_MANY);
        refusedClaim("too many, to one that is noticed", States::full, 11, States.NOTICED, 1, Due.TOO_MANY);
        refusedClaim("too many, given", States::full, 9, States.GIVEN, 1, Due.NOT_POSSIBLE);
        refusedClaim("too many, returned", States::full, 9, States.RETURNED, 1, Due.NOT_POSSIBLE);
        refusedClaim("too many, fell too long ago", States::full, 9, States.FALLEN, 1, Due.NOT_POSSIBLE);
        refusedClaim("too many, the heir's is open", States::full, 15, States.KEPT, 1, Due.NOT_POSSIBLE);
        Due.Steps one = x -> {
            x.lot(5);
            for (int claim = 0; claim < 29; claim++) {
                x.claim(0, 0, 1);
                x.withdraw(claim);
            }
        };
        EscheatLots x = Due.after(one);
        Due.due("5: the 30th claim", x.claim(0, 0, 1), 29);
        Due.due("5: the 30th claim stands", x.of(0, 4), 1 << 29);
        Due.due("5: all are claims to it", x.of(0, 5), (1 << 30) - 1);
        Due.due("5: the 31st of another heir", x.claim(1, 0, 1), Due.TOO_MANY);
        Due.due("5: the 31st of this one", x.claim(0, 0, 1), Due.NOT_POSSIBLE);
        Due.due("5: it is withdrawn", x.withdraw(29), 0);
        Due.due("5: the 31st, none of thirty stands", x.claim(0, 0, 1), Due.TOO_MANY);
        x.undo();
        x.undo();
        Due.due("5: the 30th is undone", x.count(2), 29);
        Due.due("5: the 30th of another heir", x.claim(15, 0, 5), 29);
    }

    static void promise5AnHeirOnceALot() {
        EscheatLots x = new EscheatLots();
        x.lot(9);
        x.lot(9);
        for (int heir = 0; heir < 16; heir++) {
            Due.due("5: all heirs claim a lot", x.claim(heir, 0, 1 + heir % 5), heir);
        }
        for (int heir = 0; heir < 16; heir++) {
            Due.due("5: none does twice", x.claim(heir, 0, 1), Due.NOT_POSSIBLE);
        }
        for (int heir = 0; heir < 14; heir++) {
            Due.due("5: but another lot", x.claim(heir, 1, 1), 16 + heir);
        }
    }

    // ---- promise 6

    static void promise6Points() {
        int[][] rows = {{1, 1}, {2, 2}, {99, 99}, {100, 100}};
        for (int[] row : rows) {
            EscheatLots x = Due.after(States::rich);
            Due.due("6: prove(3, " + row[0] + ")", x.prove(States.OPEN, row[0]), row[1]);
            Due.due("6: prove(3, " + row[0] + "), its proof", x.ofClaim(States.OPEN, 3), row[1]);
        }
        int[][] twice = {{1, 98, 99}, {1, 99, 100}, {2, 99, 100}, {99, 1, 100}, {99, 2, 100}, {100, 1, 100}, {100, 100, 100},
            {50, 49, 99}, {50, 50, 100}, {50, 51, 100}};
        for (int[] row : twice) {
            EscheatLots x = Due.after(States::rich);
            x.prove(States.OPEN, row[0]);
            String name = "6: " + row[0] + " and " + row[1] + " points";
            Due.due(name, x.prove(States.OPEN, row[1]), row[2]);
            Due.due(name + ", its proof", x.ofClaim(States.OPEN, 3), row[2]);
        }
        EscheatLots x = Due.after(States::full);
        Due.due("6: the last claim of thirty", x.prove(29, 1), 1);
        Due.due("6: the claim behind it", x.prove(30, 1), Due.NO_SUCH);
    }

    static void promise6Refused() {
        for (int points : new int[] {0, 101, -1, -100, Integer.MIN_VALUE, Integer.MAX_VALUE}) {
            Due.refused("6: prove(3, " + points + ")", States::rich, x -> x.prove(States.OPEN, points), Due.BAD_VALUE);
            for (int claim : notOpen()) {
                Due.refused("6: prove(" + claim + ", " + points + ")", States::rich, x -> x.prove(claim, points),
                    Due.BAD_VALUE);
            }
            Due.refused("6: prove(7, " + points + ")", States::rich, x -> x.prove(States.RICH_CLAIMS, points), Due.NO_SUCH);
            Due.refused("6: prove(-1, " + points + ")", States::rich, x -> x.prove(-1, points), Due.NO_SUCH);
        }
        for (int claim : notOpen()) {
            Due.refused("6: prove(" + claim + ", 1)", States::rich, x -> x.prove(claim, 1), Due.NOT_POSSIBLE);
            Due.refused("6: prove(" + claim + ", 100)", States::rich, x -> x.prove(claim, 100), Due.NOT_POSSIBLE);
        }
        Due.refused("6: prove(7, 1)", States::rich, x -> x.prove(States.RICH_CLAIMS, 1), Due.NO_SUCH);
        Due.refused("6: prove(30, 1)", States::full, x -> x.prove(30, 1), Due.NO_SUCH);
        for (int never : States.NEVER) {
            Due.refused("6: prove(" + never + ", 1)", States::rich, x -> x.prove(never, 1), Due.NO_SUCH);
        }
        Due.Steps proved = x -> {
            States.rich(x);
            x.prove(States.OPEN, 99);
        };
        Due.refused("6: refused points do not fill a proof", proved, x -> x.prove(States.OPEN, 101), Due.BAD_VALUE);
    }

    private static int[] notOpen() {
        return new int[] {States.SETTLED, States.LAPSED, States.UPHELD, States.REFUSED, States.WITHDRAWN};
    }

    static void promise6WaitsAnew() {
        EscheatLots x = Due.after(y -> Due.carry(y, "l5;c1@0/1;t89"));
        Due.due("6: a proof on the last day", x.prove(0, 1), 1);
        Due.due("6: it begins to wait anew", x.ofClaim(0, 5), 0);
        x.pass(89);
        Due.due("6: it is open again so long", x.ofClaim(0, 4), 0);
        x.pass(1);
        Due.due("6: not longer", x.ofClaim(0, 4), 4);
        EscheatLots late = Due.after(y -> Due.carry(y, "l5;c1@0/1;t90"));
        Due.due("6: a proof a day too late", late.prove(0, 1), Due.NOT_POSSIBLE);
        EscheatLots refused = Due.after(y -> Due.carry(y, "l5;c1@0/1;t89"));
        refused.prove(0, 0);
        refused.prove(0, 101);
        refused.pass(1);
        Due.due("6: refused points do not make it wait anew", refused.ofClaim(0, 4), 4);
        EscheatLots full = Due.after(y -> Due.carry(y, "l5;c1@0/1;p0+100;t89"));
        Due.due("6: points above a whole proof", full.prove(0, 100), 100);
        full.pass(89);
        Due.due("6: they make it wait anew", full.ofClaim(0, 4), 0);
    }

    // ---- promise 7

    static void promise7Refused() {
        for (int claim : notOpen()) {
            Due.refused("7: decide(" + claim + ")", States::rich, x -> x.decide(claim), Due.NOT_POSSIBLE);
        }
        Due.refused("7: decide(7)", States::rich, x -> x.decide(States.RICH_CLAIMS), Due.NO_SUCH);
        Due.refused("7: decide(30)", States::full, x -> x.decide(30), Due.NO_SUCH);
        for (int never : States.NEVER) {
            Due.refused("7: decide(" + never + ")", States::rich, x -> x.decide(never), Due.NO_SUCH);
        }
        Due.due("7: the last claim of thirty", Due.after(States::full).decide(29), 2);
    }

    static void promise7Threshold() {
        for (int points = 58; points <= 62; points++) {
            EscheatLots x = Due.after(States::rich);
            x.prove(States.OPEN, points);
            Due.due("7: a proof of " + points, x.decide(States.OPEN), points >= 60 ? 1 : 2);
            Due.due("7: how it is, " + points, x.ofClaim(States.OPEN, 4), points >= 60 ? 1 : 2);
        }
        EscheatLots x = Due.after(States::rich);
        x.prove(States.OPEN, 59);
        x.set(Due.PROOF, 59);
        Due.due("7: PROOF is that of the day on which it is decided", x.decide(States.OPEN), 1);
        x.set(Due.PROOF, 100);
        Due.due("7: it stays upheld", x.ofClaim(States.OPEN, 4), 1);
        EscheatLots none = Due.after(States::rich);
        none.set(Due.PROOF, 1);
        Due.due("7: no proof at all, PROOF of 1", none.decide(States.OPEN), 2);
    }

    // ---- promise 8

    static void promise8HowManyStand() {
        EscheatLots x = new EscheatLots();
        x.lot(9);
        for (int heir = 0; heir < 16; heir++) {
            x.claim(heir, 0, 1);
            if (heir % 2 == 0) {
                Due.uphold(x, heir);
            }
        }
        for (int left = 15; left >= 0; left--) {
            Due.due("8: withdraw with " + left + " left", x.withdraw(left), left);
            Due.due("8: those that stand", x.of(0, 4), (1 << left) - 1);
        }
        EscheatLots y = Due.after(States::rich);
        Due.due("8: an upheld one, an open one stays", y.withdraw(States.UPHELD), 1);
        Due.due("8: the last one that stands", y.withdraw(States.OPEN), 0);
        EscheatLots z = Due.after(States::full);
        Due.due("8: the last claim of thirty", z.withdraw(29), 10);
        Due.due("8: that of the fallen lot", z.withdraw(2), 0);
    }

    static void promise8Refused() {
        for (int claim : new int[] {States.SETTLED, States.LAPSED, States.REFUSED, States.WITHDRAWN}) {
            Due.refused("8: withdraw(" + claim + ")", States::rich, x -> x.withdraw(claim), Due.NOT_POSSIBLE);
        }
        Due.refused("8: withdraw(7)", States::rich, x -> x.withdraw(States.RICH_CLAIMS), Due.NO_SUCH);
        Due.refused("8: withdraw(30)", States::full, x -> x.withdraw(30), Due.NO_SUCH);
        for (int never : States.NEVER) {
            Due.refused("8: withdraw(" + never + ")", States::rich, x -> x.withdraw(never), Due.NO_SUCH);
        }
    }

    // ---- promise 9

    static void refusedSettling(String name, String more, int lot) {
        Due.Steps before = x -> {
            States.rich(x);
            x.wipe();
            if (!more.isEmpty()) {
                Due.carry(x, more);
            }
        };
        Due.refused("9: " + name, before, x -> x.settle(lot), Due.NOT_POSSIBLE);
    }

    static void promise9Refused() {
        refusedSettling("given", "", States.GIVEN);
        refusedSettling("returned", "", States.RETURNED);
        refusedSettling("one is open, one upheld", "", States.KEPT);
        refusedSettling("one is open", "w4", States.KEPT);
        refusedSettling("none stands", "w3;w4", States.KEPT);
        refusedSettling("no claim at all", "", States.NOTICED);
        refusedSettling("an open one to one that is noticed", "c1@1/1", States.NOTICED);
        refusedSettling("a refused one", "c1@1/1;d7", States.NOTICED);
        refusedSettling("one that is fallen, no claim at all", "", States.FALLEN);
        refusedSettling("one that is fallen, an open one", "c1@3/1", States.FALLEN);
        refusedSettling("one that is fallen, an open one of a farther line",
            "c1@3/1;c2@3/5;p7+60;d7", States.FALLEN);
        refusedSettling("a lapsed one", "c1@1/1;t90", States.NOTICED);
        Due.refused("9: settle(5)", States::rich, x -> x.settle(States.RICH_LOTS), Due.NO_SUCH);
        Due.refused("9: settle(12)", States::full, x -> x.settle(12), Due.NO_SUCH);
        for (int never : States.NEVER) {
            Due.refused("9: settle(" + never + ")", States::rich, x -> x.settle(never), Due.NO_SUCH);
        }
        EscheatLots x = Due.after(States::rich);
        x.decide(States.OPEN);
        Due.due("9: when the open one is refused", x.settle(States.KEPT), 1);
        Due.due("9: a second time", x.settle(States.KEPT), Due.NOT_POSSIBLE);
    }

    /** As many heirs as there are share a lot; the coins go to the first claims. */
    static void sharedAmongAll(int value, int[] brought) {
        EscheatLots x = new EscheatLots();
        x.lot(value);
        for (int claim = 0; claim < 16; claim++) {
            x.claim(15 - claim, 0, 3);
        }
        for (int claim = 15; claim >= 0; claim--) {
            Due.uphold(x, claim);
        }
        String name = "9: " + value + " coins among 16";
        Due.due(name, x.settle(0), 16);
        int paid = 0;
        for (int claim = 0; claim < 16; claim++) {
            Due.due(name + ", claim " + claim, x.ofClaim(claim, 6), brought[claim]);
            Due.due(name + ", claim " + claim + " is settled", x.ofClaim(claim, 4), 5);
            Due.due(name + ", the purse", x.heir(15 - claim, 0), brought[claim]);
            Due.due(name + ", lots of the heir", x.heir(15 - claim, 3), brought[claim] > 0 ? 1 : 0);
            paid += brought[claim] > 0 ? 1 : 0;
        }
        for (int rank = 0; rank < paid; rank++) {
            Due.due(name + ", paid(" + rank + ")", x.paid(rank), 15 - rank);
        }
        Due.due(name + ", no more are paid", x.paid(paid), Due.NO_SUCH);
        Due.due(name + ", all purses", x.count(11), value);
    }

    static void promise9OneCoin() {
        sharedAmongAll(1, new int[] {1, 0, 0, 0, 0, 0, 0, 0, 0, 0, 0, 0, 0, 0, 0, 0});
        sharedAmongAll(2, new int[] {1, 1, 0, 0, 0, 0, 0, 0, 0, 0, 0, 0, 0, 0, 0, 0});
        sharedAmongAll(15, new int[] {1, 1, 1, 1, 1, 1, 1, 1, 1, 1, 1, 1, 1, 1, 1, 0});
        sharedAmongAll(16, new int[] {1, 1, 1, 1, 1, 1, 1, 1, 1, 1, 1, 1, 1, 1, 1, 1});
        sharedAmongAll(17, new int[] {2, 1, 1, 1, 1, 1, 1, 1, 1, 1, 1, 1, 1, 1, 1, 1});
        sharedAmongAll(31, new int[] {2, 2, 2, 2, 2, 2, 2, 2, 2, 2, 2, 2, 2, 2, 2, 1});
        sharedAmongAll(32, new int[] {2, 2, 2, 2, 2, 2, 2, 2, 2, 2, 2, 2, 2, 2, 2, 2});
    }

    static void promise9GreatestShares() {
        EscheatLots x = Due.after(BoundsOfChangesTest::elevenLots);
        x.lot(9999);
        for (int lot = 0; lot < 12; lot++) {
            x.claim(15, lot, 5);
            Due.uphold(x, lot);
            Due.due("9: settle " + lot, x.settle(lot), 1);
        }
        Due.due("9: the greatest purse", x.heir(15, 0), 12 * 9999);
        Due.due("9: all purses", x.count(11), 12 * 9999);
        Due.due("9: all lots", x.heir(15, 3), 4095);
        Due.due("9: all are given", x.count(5), 4095);
        Due.due("9: kept or noticed is nothing", x.count(9), 0);
        Due.due("9: one heir is paid", x.paid(1), Due.NO_SUCH);
    }

    static void promise9LinesAtTheirEnds() {
        for (int near = 1; near <= 5; near++) {
            for (int far = near; far <= 5; far++) {
                for (int earlier = 0; earlier < 2; earlier++) {
                    EscheatLots x = new EscheatLots();
                    x.lot(11);
                    x.claim(4, 0, earlier == 0 ? near : far);
                    x.claim(2, 0, earlier == 0 ? far : near);
                    Due.uphold(x, 0);
                    Due.uphold(x, 1);
                    String name = "9: lines " + near + " and " + far + ", the nearer is claim " + earlier;
                    Due.due(name + ", the nearest", x.of(0, 6), near);
                    Due.due(name, x.settle(0), near == far ? 2 : 1);
                    Due.due(name + ", nearer", x.ofClaim(earlier, 6), near < far ? 11 : earlier == 0 ? 6 : 5);
                    Due.due(name + ", farther", x.ofClaim(1 - earlier, 6), near < far ? 0 : earlier == 0 ? 5 : 6);
                    Due.due(name + ", both are settled", x.ofClaim(0, 4) + x.ofClaim(1, 4), 10);
                    Due.due(name + ", none is upheld", x.of(0, 6), Due.NONE);
                }
            }
        }
    }

    static void promise9FallenLots() {
        EscheatLots x = new EscheatLots();
        x.set(Due.TERM, 1);
        x.set(Due.BACK, 0);
        Due.carry(x, "l1;l39;l9;n0;n1;n2;t1;c3@0/2;c4@1/2;c5@1/2;p0+60;p1+60;p2+60;d0;d1;d2");
        x.pass(400);
        Due.due("9: the crown has all", x.count(10), 49);
        Due.due("9: behind BACK days it is settled yet", x.settle(0), 1);
        Due.due("9: 1 * 5 / 100 = 0 are kept", x.count(10), 48);
        Due.due("9: the coin goes to the heir", x.heir(3, 0), 1);
        Due.due("9: among two", x.settle(1), 2);
        Due.due("9: 39 * 5 / 100 = 1 is kept", x.count(10), 10);
        Due.due("9: 38 are shared, the first half", x.heir(4, 0), 19);
        Due.due("9: 38 are shared, the second half", x.heir(5, 0), 19);
        Due.due("9: they are returned", x.count(7), 3);
        Due.due("9: the last one is fallen", x.count(6), 4);
        Due.due("9: days since the fall", x.of(1, 3), 400);
        EscheatLots y = Due.after(States::rich);
        Due.carry(y, "c9@3/4;p7+60;d7");
        Due.due("9: beside one that is returned already", y.count(10), 425);
        Due.due("9: settle", y.settle(States.FALLEN), 1);
        Due.due("9: both fees", y.count(10), 45);
    }

    // ---- promise 10

    static void promise10Ranges() {
        for (int days : new int[] {1, 2, 399, 400}) {
            EscheatLots x = new EscheatLots();
            Due.due("10: pass(" + days + ")", x.pass(days), 0);
            Due.due("10: pass(" + days + "), the day", x.count(0), days);
        }
        for (int days : new int[] {0, -1, -400, 401, 402, 9999, 65537, Integer.MIN_VALUE, Integer.MAX_VALUE}) {
            Due.refused("10: pass(" + days + ")", States::rich, x -> x.pass(days), Due.BAD_VALUE);
            Due.refused("10: pass(" + days + ") without lots", States::nothing, x -> x.pass(days), Due.BAD_VALUE);
            Due.refused("10: pass(" + days + ") on the last day", States::lastDay, x -> x.pass(days), Due.BAD_VALUE);
        }
    }

    static void promise10LastDay() {
        for (int day : new int[] {9599, 9600, 9601, 9998}) {
            int left = 9999 - day;
            Due.Steps before = x -> States.toDay(x, day);
            EscheatLots x = Due.after(before);
            Due.due("10: the day", x.count(0), day);
            if (left < 400) {
                Due.refused("10: pass(" + (left + 1) + ") on day " + day, before, y -> y.pass(left + 1), Due.NOT_POSSIBLE);
                Due.refused("10: pass(400) on day " + day, before, y -> y.pass(400), Due.NOT_POSSIBLE);
            }
            Due.due("10: on day " + day, x.pass(Math.min(left, 400)), 0);
            Due.due("10: on day " + day + ", the day then", x.count(0), Math.min(9999, day + 400));
        }
        Due.refused("10: pass(1) on day 9999", States::lastDay, x -> x.pass(1), Due.NOT_POSSIBLE);
        Due.refused("10: pass(400) on day 9999", States::lastDay, x -> x.pass(400), Due.NOT_POSSIBLE);
        EscheatLots x = Due.after(States::lastDay);
        x.undo();
        Due.due("25: the days are undone", x.count(0), 9990);
        Due.due("10: all but one of what is left", x.pass(8), 0);
        Due.due("10: the last one", x.pass(1), 0);
        Due.due("10: no more", x.pass(1), Due.NOT_POSSIBLE);
    }

    /** All falls of a pass are told, of one day and of several. */
    static void promise10HowManyFall() {
        EscheatLots none = Due.after(x -> Due.carry(x, "l1;l2;n0"));
        Due.due("10: none falls, a day ahead", none.pass(365), 0);
        EscheatLots one = Due.after(x -> Due.carry(x, "l1;l2;n0"));
        Due.due("10: one falls on the last of the days", one.pass(366), 1);
        EscheatLots first = Due.after(x -> {
            x.set(Due.TERM, 1);
            Due.carry(x, "l1;l2;n0");
        });
        Due.due("10: one falls on the first of the days", first.pass(400), 1);
        EscheatLots more = new EscheatLots();
        more.set(Due.TERM, 3);
        Due.carry(more, "l1;l2;l3;l4;l5;n0;t1;n1;n2;t1;n3");
        Due.due("10: one, two and one fall on unlike days", more.pass(3), 4);
        Due.due("10: days since the fall of the first one", more.of(0, 3), 2);
        Due.due("10: of the next two", more.of(1, 3) + more.of(2, 3), 2);
        Due.due("10: of the last one", more.of(3, 3), 0);
        Due.due("10: the crown has these", more.count(10), 10);
        Due.due("10: one is kept", more.count(3), 16);
        EscheatLots all = Due.after(BoundsOfChangesTest::elevenLots);
        all.lot(9999);
        all.set(Due.TERM, 1);
        for (int lot = 0; lot < 12; lot++) {
            all.notice(lot);
        }
        Due.due("10: twelve fall on one day", all.pass(1), 12);
        Due.due("10: the crown has all", all.count(10), 12 * 9999);
    }

    static void promise10FallsOnTheLastDay() {
        EscheatLots x = Due.after(y -> States.toDay(y, 9989));
        x.set(Due.TERM, 10);
        Due.carry(x, "l7;n0");
        Due.due("10: above the last day nothing falls", x.pass(11), Due.NOT_POSSIBLE);
        Due.due("10: nothing is counted", x.of(0, 2), 0);
        Due.due("10: a lot falls on the last day", x.pass(10), 1);
        Due.due("10: the crown has it", x.count(10), 7);
        Due.due("10: claims come on the last day, too", x.claim(1, 0, 1), 0);
        Due.due("10: and are decided", Due.uphold(x, 0), 1);
        Due.due("10: and the lot settled", x.settle(0), 1);
    }

    static void promise10TermAndLapseOfOneDay() {
        EscheatLots x = new EscheatLots();
        x.set(Due.TERM, 1);
        x.set(Due.LAPSE, 1);
        Due.carry(x, "l7;l8;n0;c1@0/1;c2@0/1;c3@1/1");
        Due.due("10: claims lapse and the lot falls on one day", x.pass(1), 1);
        Due.due("10: they have lapsed", x.ofClaim(0, 4) + x.ofClaim(1, 4) + x.ofClaim(2, 4), 12);
        Due.due("10: it has fallen", x.of(0, 1), 3);
        Due.due("10: no day since", x.of(0, 3), 0);
        Due.due("10: the other one is kept", x.of(1, 1), 0);
        EscheatLots y = new EscheatLots();
        y.set(Due.TERM, 1);
        y.set(Due.LAPSE, 2);
        Due.carry(y, "l7;n0;c1@0/1");
        Due.due("10: one that waits for a day more holds it up", y.pass(1), 0);
        Due.due("10: nothing is counted", y.of(0, 2), 0);
        Due.due("10: until it lapses", y.pass(1), 1);
    }

    static void promise10SinceTheFall() {
        EscheatLots x = new EscheatLots();
        x.set(Due.TERM, 1);
        Due.carry(x, "l7;l8;n0;t1;n1");
        Due.due("10: a lot falls, another had fallen", x.pass(1), 1);
        Due.due("10: since the fall of the one", x.of(0, 3), 1);
        Due.due("10: of the other", x.of(1, 3), 0);
        Due.due("10: a day without a fall", x.pass(1), 0);
        Due.due("10: since the fall of the one", x.of(0, 3), 2);
        Due.due("10: of the other", x.of(1, 3), 1);
        Due.due("10: counted days of the one stand still", x.of(0, 2), 1);
        States.toDay(x, 9999);
        Due.due("10: on the last day", x.of(0, 3), 9998);
    }
}
