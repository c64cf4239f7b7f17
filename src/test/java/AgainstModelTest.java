/**
 * All promises at once: long runs of calls, the same ones each time, on the class and on the model. A run ends
 * ahead of the 513th call of its object, behind which answers are free.
 */
public final class AgainstModelTest {
    private static final int RUNS = 1500, CALLS = 512, MOST_CALLS_OF_A_TEXT = 12;

    private final EscheatLots x = new EscheatLots();
    private final Model model = new Model();

    // In these runs the settings and the days are of their whole ranges, in the others they are small.
    private final boolean wide;

    private long seed;
    private int calls = 0;
    private String call = "";
    private int answer = 0;

    private AgainstModelTest(int run) {
        seed = 88172645463325252L + run * 7919L;
        wide = run % 4 == 0;
    }

    public static void main(String[] args) {
        for (int run = 0; run < RUNS && Due.wrongSoFar() == 0; run++) {
            new AgainstModelTest(run).run("model run " + run);
        }
        Due.end();
    }

    private void run(String name) {
        while (calls <= CALLS - MOST_CALLS_OF_A_TEXT) {
            int want = next(2) == 0 ? change() : question();
            Due.due(name + ", call " + calls + ", " + call, answer, want);
            if (answer != want) {
                return;
            }
        }
    }

    /** Notes what the class has answered to a call, and returns what the model has. */
    private int both(String text, int got, int want) {
        calls++;
        call = text;
        answer = got;
        return want;
    }

    private int next(int below) {
        seed ^= seed << 13;
        seed ^= seed >>> 7;
        seed ^= seed << 17;
        return (int) Math.floorMod(seed >>> 11, (long) below);
    }

    /** Most often a number that can be, at times one a bit off, seldom one far off. */
    private int number(int from, int to) {
        int kind = next(60);
        if (kind == 0) {
            return Due.FAR[next(Due.FAR.length)];
        }
        if (kind == 1) {
            return next(2) == 0 ? from - 1 : to + 1;
        }
        return from + next(to - from + 1);
    }

    private int lotNumber() {
        return number(0, Math.max(0, model.count(1) - 1));
    }

    private int claimNumber() {
        int claims = model.count(2);
        return number(next(2) == 0 ? Math.max(0, claims - 5) : 0, Math.max(0, claims - 1));
    }

    private int change() {
        int a;
        int b;
        int c;
        switch (next(18)) {
            case 0:
                a = number(0, 4);
                b = a < 0 || a > 4 ? 1 : setting(a);
                return both("set(" + a + ", " + b + ")", x.set(a, b), model.set(a, b));
            case 1:
                a = next(3) == 0 ? number(1, 9999) : number(1, 40);
                return both("lot(" + a + ")", x.lot(a), model.lot(a));
            case 2:
                a = lotNumber();
                return both("notice(" + a + ")", x.notice(a), model.notice(a));
            case 3: case 4: case 5:
                a = number(0, 15);
                b = lotNumber();
                c = number(1, next(2) == 0 ? 5 : 2);
                return both("claim(" + a + ", " + b + ", " + c + ")", x.claim(a, b, c), model.claim(a, b, c));
            case 6: case 7: case 8:
                a = claimNumber();
                b = number(1, 100);
                return both("prove(" + a + ", " + b + ")", x.prove(a, b), model.prove(a, b));
            case 9: case 10:
                a = claimNumber();
                return both("decide(" + a + ")", x.decide(a), model.decide(a));
            case 11:
                a = claimNumber();
                return both("withdraw(" + a + ")", x.withdraw(a), model.withdraw(a));
            case 12: case 13:
                a = lotNumber();
                return both("settle(" + a + ")", x.settle(a), model.settle(a));
            case 14: case 15:
                a = wide ? number(1, 400) : number(1, 8);
                return both("pass(" + a + ")", x.pass(a), model.pass(a));
            case 16:
                return text();
            default:
                return back();
        }
    }

    private int setting(int a) {
        int[] most = {400, 100, 200, 400, 50};
        int least = a < 3 ? 1 : 0;
        return wide ? number(least, most[a]) : number(least, Math.min(most[a], 20));
    }

    private int back() {
        int a = number(0, 1);
        switch (next(4)) {
            case 0: return both("save(" + a + ")", x.save(a), model.save(a));
            case 1: return both("restore(" + a + ")", x.restore(a), model.restore(a));
            default: return both("undo()", x.undo(), model.undo());
        }
    }

    private int text() {
        if (next(3) == 0) {
            long characters = Due.packed(piece()) | (next(40) == 0 ? 1L << next(64) : 0L);
            return both("put(" + characters + ")", x.put(characters), model.put(characters));
        }
        int orders = 1 + next(9);
        for (int i = 0; i < orders; i++) {
            String order = (model.count(19) > 0 ? ";" : "") + order();
            int want = both("", x.put(Due.packed(order)), model.put(Due.packed(order)));
            call = "put of '" + order + "'";
            if (answer != want) {
                return want;
            }
        }
        int want = both("fault()", x.fault(), model.fault());
        if (answer != want || next(6) == 0) {
            return want;
        }
        if (want != Due.NONE && next(4) > 0) {
            return both("wipe()", x.wipe(), model.wipe());
        }
        return both("carryOut()", x.carryOut(), model.carryOut());
    }

    private String piece() {
        String signs = "lncpdwst@/+;0123456789";
        StringBuilder piece = new StringBuilder();
        for (int length = next(4); length >= 0; length--) {
            piece.append(signs.charAt(next(signs.length())));
        }
        return piece.toString();
    }

    private String order() {
        int lots = Math.max(1, model.count(1));
        int claims = Math.max(1, model.count(2));
        switch (next(9)) {
            case 0: return "l" + next(30);
            case 1: return "n" + next(lots);
            case 2: case 3: return "c" + next(16) + "@" + next(lots) + "/" + (1 + next(5));
            case 4: return "p" + next(claims) + "+" + (40 + next(60));
            case 5: return "d" + next(claims);
            case 6: return "w" + next(claims + 1);
            case 7: return "s" + next(lots);
            default: return "t" + next(12);
        }
    }

    private int question() {
        int a;
        int b;
        int c;
        switch (next(14)) {
            case 0: case 1:
                a = lotNumber();
                b = number(0, 6);
                return both("of(" + a + ", " + b + ")", x.of(a, b), model.of(a, b));
            case 2: case 3:
                a = claimNumber();
                b = number(0, 6);
                return both("ofClaim(" + a + ", " + b + ")", x.ofClaim(a, b), model.ofClaim(a, b));
            case 4:
                a = number(0, 15);
                b = number(0, 3);
                return both("heir(" + a + ", " + b + ")", x.heir(a, b), model.heir(a, b));
            case 5:
                a = number(0, 6);
                return both("paid(" + a + ")", x.paid(a), model.paid(a));
            case 6: case 7:
                a = number(0, 20);
                return both("count(" + a + ")", x.count(a), model.count(a));
            case 8:
                a = lotNumber();
                return both("why(" + a + ")", x.why(a), model.why(a));
            case 9:
                a = lotNumber();
                return both("fallsIn(" + a + ")", x.fallsIn(a), model.fallsIn(a));
            case 10: case 11:
                a = lotNumber();
                b = number(0, 15);
                c = number(0, 1);
                return both("share(" + a + ", " + b + ", " + c + ")", x.share(a, b, c), model.share(a, b, c));
            case 12:
                a = number(0, 1);
                return both("nextFall(" + a + ")", x.nextFall(a), model.nextFall(a));
            default:
                a = number(0, 1);
                return both("nextLapse(" + a + ")", x.nextLapse(a), model.nextLapse(a));
        }
    }
}
