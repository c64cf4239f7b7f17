/** What the tests share: it compares answers with those that are due, and fills pads. */
final class Due {
    static final int NO_SUCH = EscheatLots.NO_SUCH, BAD_VALUE = EscheatLots.BAD_VALUE,
        BAD_TEXT = EscheatLots.BAD_TEXT, TOO_MANY = EscheatLots.TOO_MANY,
        NOT_POSSIBLE = EscheatLots.NOT_POSSIBLE, NONE = EscheatLots.NONE;
    static final int TERM = EscheatLots.TERM, PROOF = EscheatLots.PROOF, LAPSE = EscheatLots.LAPSE,
        BACK = EscheatLots.BACK, FEE = EscheatLots.FEE;
    static final int[] FAR = {Integer.MIN_VALUE, -1000000, -33, -7, -6, -5, -2, -1, 512, 65536, 1 << 30, Integer.MAX_VALUE};

    private static final int LONGEST_SECONDS = 300;

    private static int wrong = 0;
    private static int compared = 0;

    // A call that does not end has to fail its test, too, and not to hold up all the others.
    static {
        Thread watch = new Thread(Due::failInTheEnd);
        watch.setDaemon(true);
        watch.start();
    }

    private Due() {
    }

    private static void failInTheEnd() {
        try {
            Thread.sleep(LONGEST_SECONDS * 1000L);
        } catch (InterruptedException nobodyInterruptsThis) {
            return;
        }
        System.out.println("the test has not ended within " + LONGEST_SECONDS + " seconds");
        Runtime.getRuntime().halt(1);
    }

    interface Steps {
        void on(EscheatLots x);
    }

    interface Call {
        int on(EscheatLots x);
    }

    static void due(String call, long got, long want) {
        compared++;
        if (got != want) {
            wrong++;
            System.out.println(call + " answered " + got + ", due is " + want);
        }
    }

    static void due(String call, String got, String want) {
        compared++;
        if (!got.equals(want)) {
            wrong++;
            System.out.println(call + " answered\n  " + got + "\ndue is\n  " + want);
        }
    }

    static int wrongSoFar() {
        return wrong;
    }

    static void end() {
        System.out.println(compared + " answers compared, " + wrong + " not as due");
        if (wrong != 0 || compared == 0) {
            System.exit(1);
        }
    }

    /** Up to 8 characters as the number that put() takes. */
    static long packed(String text) {
        long number = 0;
        for (int i = 0; i < text.length(); i++) {
            number = number << 8 | text.charAt(i);
        }
        return number;
    }

    static void putText(EscheatLots x, String text) {
        for (int i = 0; i < text.length(); i += 8) {
            x.put(packed(text.substring(i, Math.min(text.length(), i + 8))));
        }
    }

    /** Empties the pad, writes a text there and carries it out. */
    static int carry(EscheatLots x, String text) {
        x.wipe();
        putText(x, text);
        return x.carryOut();
    }

    /** An object on which some steps have been done. */
    static EscheatLots after(Steps steps) {
        EscheatLots x = new EscheatLots();
        steps.on(x);
        return x;
    }

    /** Proves an open claim wholly, and decides it. */
    static int uphold(EscheatLots x, int claim) {
        x.prove(claim, 100);
        return x.decide(claim);
    }

    /** All that there is, in a row; at most some 400 calls. */
    static String all(EscheatLots x) {
        StringBuilder all = new StringBuilder(known(x));
        all.append(" pad ").append(x.count(19)).append(' ').append(x.fault());
        all.append(" changes ").append(x.count(20));
        return all.toString();
    }

    /** All that there is, but for the pad and the history. */
    static String known(EscheatLots x) {
        StringBuilder all = new StringBuilder();
        for (int what = 0; what <= 18; what++) {
            all.append(x.count(what)).append(' ');
        }
        int lots = Math.min(x.count(1), 12);
        for (int lot = 0; lot < lots; lot++) {
            all.append(" lot");
            for (int what = 0; what <= 6; what++) {
                all.append(' ').append(x.of(lot, what));
            }
        }
        int claims = Math.min(x.count(2), 30);
        for (int claim = 0; claim < claims; claim++) {
            all.append(" claim");
            for (int what = 0; what <= 6; what++) {
                all.append(' ').append(x.ofClaim(claim, what));
            }
        }
        for (int heir = 0; heir <= 15; heir++) {
            all.append(" heir");
            for (int what = 0; what <= 3; what++) {
                all.append(' ').append(x.heir(heir, what));
            }
        }
        all.append(" paid");
        for (int rank = 0; rank <= 16 && x.paid(rank) >= 0; rank++) {
            all.append(' ').append(x.paid(rank));
        }
        return all.toString();
    }

    /** Some steps change nothing: neither what there is, nor the pad, nor any state that can be undone. */
    static void changesNothing(String name, Steps before, Steps steps) {
        Steps both = x -> {
            before.on(x);
            steps.on(x);
        };
        int changes = after(before).count(20);
        for (int undone = 0; undone <= changes; undone++) {
            int times = undone;
            sameBehind(name + ", then " + undone + " undone", before, both, x -> {
                for (int i = 0; i < times; i++) {
                    x.undo();
                }
                return x.count(20);
            });
        }
        sameBehind(name + ", then carryOut()", before, both, EscheatLots::carryOut);
    }

    private static void sameBehind(String name, Steps before, Steps both, Call probe) {
        EscheatLots as = after(before);
        EscheatLots is = after(both);
        int want = probe.on(as);
        due(name, probe.on(is), want);
        due(name, all(is), all(as));
    }

    /** A call is refused with an error, and nothing is different behind it; what is in the slots neither. */
    static void refused(String name, Steps before, Call call, int error) {
        due(name, call.on(after(before)), error);
        changesNothing(name, before, call::on);
        for (int slot = 0; slot <= 1; slot++) {
            int which = slot;
            sameBehind(name + ", then restore(" + slot + ")", before, x -> {
                before.on(x);
                call.on(x);
            }, x -> x.restore(which));
        }
    }

    /** Some steps are exactly one change, and to undo it brings back what there was. */
    static void isOneChange(String name, Steps before, Steps steps) {
        EscheatLots x = after(before);
        due(name + ": changes ahead of it", x.count(20) < 6 ? 1 : 0, 1);
        int changes = x.count(20);
        String state = known(x);
        x = after(before);
        steps.on(x);
        due(name + ": changes behind it", x.count(20), changes + 1);
        due(name + ": undo()", x.undo(), changes);
        due(name + ": what is undone", known(x), state);
    }
}
