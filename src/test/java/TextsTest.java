/** Promises 21 to 24: texts. */
public final class TextsTest {
    public static void main(String[] args) {
        promise21Put();
        promise21Codes();
        promise21ZeroBits();
        promise21Limit();
        promise22Wipe();
        promise23Faults();
        promise23NoFaults();
        promise23EveryCut();
        promise24CarryOut();
        promise24EveryOrder();
        promise24StopsAtAnError();
        promise24BadText();
        promise24IsOneChange();
        promise24History();
        Due.end();
    }

    static void promise21Put() {
        EscheatLots x = new EscheatLots();
        Due.due("21: one character", x.put('l'), 1);
        Due.due("21: two more", x.put(Due.packed("12")), 3);
        Due.due("21: eight more", x.put(Due.packed("34;n0;t1")), 11);
        Due.due("21: they are in their order", x.fault(), Due.NONE);
        Due.due("21: carried out", x.carryOut(), 3);
        Due.due("21: carried out", x.of(0, 0), 1234);
        Due.due("21: it is no change", x.count(20), 1);
        for (int length = 1; length <= 8; length++) {
            EscheatLots y = new EscheatLots();
            Due.due("21: characters", y.put(Due.packed("l1;l2;l3".substring(0, length))), length);
        }
    }

    static void promise21Codes() {
        for (int code = 0; code <= 255; code++) {
            EscheatLots x = new EscheatLots();
            boolean good = code >= 33 && code <= 126;
            Due.due("21: code " + code, x.put(code), good ? 1 : Due.BAD_VALUE);
            Due.due("21: code " + code + ", the length", x.count(19), good ? 1 : 0);
            for (int place = 1; place < 8; place++) {
                long text = Due.packed("l1;l2;l3") & ~(255L << (8 * place)) | (long) code << (8 * place);
                boolean fits = good || (code == 0 && place == 7);
                int length = code == 0 ? 7 : 8;
                Due.due("21: code " + code + " at " + place, x.put(text),
                    fits ? length + (good ? 1 : 0) : Due.BAD_VALUE);
                x.wipe();
                if (good) {
                    x.put('l');
                }
            }
        }
    }

    static void promise21ZeroBits() {
        Due.changesNothing("21: put with errors", x -> x.put('l'), x -> {
            Due.due("21: put(0)", x.put(0L), Due.BAD_VALUE);
            Due.due("21: put(-1)", x.put(-1L), Due.BAD_VALUE);
            Due.due("21: put(MIN)", x.put(Long.MIN_VALUE), Due.BAD_VALUE);
            Due.due("21: put(MAX)", x.put(Long.MAX_VALUE), Due.BAD_VALUE);
            for (int bit = 16; bit < 64; bit++) {
                Due.due("21: bit " + bit + " above 8 bits that are 0", x.put('l' | 1L << bit), Due.BAD_VALUE);
            }
            Due.due("21: 0 as the last character", x.put('l' << 8), Due.BAD_VALUE);
            Due.due("21: 32", x.put(32L), Due.BAD_VALUE);
            Due.due("21: 127", x.put(127L), Due.BAD_VALUE);
            Due.due("21: a space between", x.put(Due.packed("l 1")), Due.BAD_VALUE);
        });
    }

    static void fillPad(EscheatLots x) {
        for (int i = 0; i < 10; i++) {
            x.put(Due.packed("d0;d0;d0"));
        }
    }

    static void promise21Limit() {
        EscheatLots x = new EscheatLots();
        for (int i = 1; i <= 9; i++) {
            Due.due("21: put of eight", x.put(Due.packed("d0;d0;d0")), 8 * i);
        }
        Due.due("21: 79", x.put(Due.packed("1234567")), 79);
        Due.due("21: two more would be 81", x.put(Due.packed("12")), Due.TOO_MANY);
        Due.due("21: it stays", x.count(19), 79);
        Due.due("21: 80", x.put('1'), 80);
        Due.due("21: one more would be 81", x.put('1'), Due.TOO_MANY);
        Due.due("21: a bad value goes ahead of too many", x.put(0L), Due.BAD_VALUE);
        Due.due("21: a bad value goes ahead of too many", x.put(32L), Due.BAD_VALUE);
        Due.due("21: it stays", x.count(19), 80);
        Due.changesNothing("21: a full pad", TextsTest::fillPad, y -> y.put('1'));
    }

    static void promise22Wipe() {
        EscheatLots x = new EscheatLots();
        Due.due("22: an empty pad", x.wipe(), 0);
        x.put(Due.packed("l1;"));
        Due.due("22: wipe()", x.wipe(), 3);
        Due.due("22: it is empty", x.count(19), 0);
        Due.due("22: again", x.wipe(), 0);
        x.put(Due.packed("n0"));
        Due.due("22: nothing of the old text is left", x.fault(), Due.NONE);
        Due.due("22: nothing of the old text is left", x.count(19), 2);
        Due.due("22: it is no change", x.count(20), 0);
        fillPad(x);
        Due.due("22: TOO_MANY changes nothing", x.wipe(), 74);
        fillPad(x);
        Due.due("22: a full pad", x.wipe(), 80);
    }

    static void faultIs(String text, int fault) {
        EscheatLots x = new EscheatLots();
        Due.putText(x, text);
        Due.due("23: fault of '" + text + "'", x.fault(), fault);
        Due.due("23: it changes nothing", x.count(19), text.length());
        Due.due("23: carryOut of '" + text + "'", x.carryOut() == Due.BAD_TEXT ? 1 : 0, fault == Due.NONE ? 0 : 1);
    }

    static void promise23Faults() {
        faultIs("", 0);
        faultIs("x", 0);
        faultIs("L1", 0);
        faultIs("1", 0);
        faultIs(";l1", 0);
        faultIs("l", 1);
        faultIs("l;", 1);
        faultIs("lx", 1);
        faultIs("l+1", 1);
        faultIs("l1;", 3);
        faultIs("l1;;l1", 3);
        faultIs("l1;x", 3);
        faultIs("l1l1", 2);
        faultIs("l1,l1", 2);
        faultIs("l00", 2);
        faultIs("l01", 2);
        faultIs("l10000", 5);
        faultIs("l99990", 5);
        faultIs("l12345678", 5);
        faultIs("l1@2", 2);
        faultIs("l1:", 2);
        faultIs("l1/", 2);
        faultIs("l/", 1);
        faultIs("l:", 1);
        faultIs("p", 1);
        faultIs("p1", 2);
        faultIs("p1+", 3);
        faultIs("p1;", 2);
        faultIs("p1@1", 2);
        faultIs("p1++1", 3);
        faultIs("p01+1", 2);
        faultIs("p1+01", 4);
        faultIs("p10000+1", 5);
        faultIs("p1+10000", 7);
        faultIs("p1+1+1", 4);
        faultIs("c", 1);
        faultIs("c@", 1);
        faultIs("c1", 2);
        faultIs("c1@", 3);
        faultIs("c1@/", 3);
        faultIs("c1@2", 4);
        faultIs("c1@2;", 4);
        faultIs("c1@2/", 5);
        faultIs("c1@2/;", 5);
        faultIs("c1@2/12", 6);
        faultIs("c1@2/00", 6);
        faultIs("c1/2@1", 2);
        faultIs("c1+2/1", 2);
        faultIs("c00@2/1", 2);
        faultIs("c1@02/1", 4);
        faultIs("c1@10000/1", 7);
        faultIs("c10000@1/1", 5);
        faultIs("n1;d2;w3;s4;t5;p6+7;c8@9/0;q", 27);
        for (char sign = 33; sign <= 126; sign++) {
            if ("lnpcdwst".indexOf(sign) < 0) {
                faultIs(String.valueOf(sign), 0);
                faultIs("l1;" + sign, 3);
            } else {
                faultIs(String.valueOf(sign), 1);
            }
            if ((sign < '0' || sign > '9') && sign != ';') {
                faultIs("l1" + sign + "1", 2);
            }
        }
    }

    static void promise23NoFaults() {
        String[] texts = {"l0", "l9", "l10", "l9999", "n0", "d0", "w0", "s0", "t0", "t9999", "p0+0", "p9999+9999",
            "c0@0/0", "c9999@9999/9", "l0;l0", "n1;d2;w3;s4;t5;p6+7;c8@9/0;l1000"};
        for (String text : texts) {
            faultIs(text, Due.NONE);
        }
        StringBuilder full = new StringBuilder("t1000");
        while (full.length() < 77) {
            full.append(";n0");
        }
        faultIs(full.toString(), Due.NONE);
        faultIs(full + ";n0", Due.NONE);
        faultIs(full + ";n", full.length() + 2);
        faultIs(full + ";nn", full.length() + 2);
        faultIs(full + ";", full.length() + 1);
    }

    /** Every beginning of a text without a fault either has none, too, or it ends too early. */
    static void promise23EveryCut() {
        String text = "c10@2/3;p45+67;l8900;t0;c1@20/4";
        for (int length = 0; length <= text.length(); length++) {
            String cut = text.substring(0, length);
            boolean whole = cut.matches("([lnt](0|[1-9]\\d*)|p\\d+\\+\\d+|c\\d+@\\d+/\\d|;)*") && !cut.isEmpty()
                && !cut.endsWith(";");
            faultIs(cut, whole ? Due.NONE : length);
        }
    }

    static void promise24CarryOut() {
        EscheatLots x = new EscheatLots();
        Due.due("24: three orders", Due.carry(x, "l100;l200;n1"), 3);
        Due.due("24: lots", x.count(1), 2);
        Due.due("24: noticed", x.count(4), 2);
        Due.due("24: the pad is empty", x.count(19), 0);
        Due.due("24: it has a fault then", x.carryOut(), Due.BAD_TEXT);
        Due.due("24: one order", Due.carry(x, "t400"), 1);
        Due.due("24: the day", x.count(0), 400);
        EscheatLots y = new EscheatLots();
        StringBuilder most = new StringBuilder("l1");
        while (most.length() < 80) {
            most.append(";t1");
        }
        Due.due("24: the most orders", Due.carry(y, most.toString()), 27);
        Due.due("24: the days", y.count(0), 26);
        EscheatLots z = new EscheatLots();
        StringBuilder days = new StringBuilder("t400");
        while (days.length() < 79) {
            days.append(";t400");
        }
        Due.due("24: many days", Due.carry(z, days.toString()), 16);
        Due.due("24: many days", z.count(0), 6400);
    }

    /** Each order does what its call does. */
    static void promise24EveryOrder() {
        EscheatLots text = new EscheatLots();
        EscheatLots calls = new EscheatLots();
        Due.due("24: every order", Due.carry(text, "l700;l9999;n1;c15@0/5;c3@0/2;p0+60;p1+100;d0;w1;t12;s0;c4@1/3"), 12);
        calls.lot(700);
        calls.lot(9999);
        calls.notice(1);
        calls.claim(15, 0, 5);
        calls.claim(3, 0, 2);
        calls.prove(0, 60);
        calls.prove(1, 100);
        calls.decide(0);
        calls.withdraw(1);
        calls.pass(12);
        calls.settle(0);
        calls.claim(4, 1, 3);
        Due.due("24: every order", Due.known(text), Due.known(calls));
    }

    static void stopsAt(String text, int orders) {
        EscheatLots x = Due.after(y -> Due.carry(y, "l10;l20;n1;c1@0/1"));
        int days = x.count(0);
        Due.due("24: '" + text + "'", Due.carry(x, "t1;" + text + ";t1"), orders + 1);
        Due.due("24: '" + text + "', the orders behind it", x.count(0), days + 1);
        Due.due("24: '" + text + "', the pad is empty", x.count(19), 0);
        Due.due("24: '" + text + "' is a change", x.count(20), 2);
    }

    static void promise24StopsAtAnError() {
        stopsAt("l0", 0);
        stopsAt("n1", 0);
        stopsAt("n2", 0);
        stopsAt("c16@0/1", 0);
        stopsAt("c0@2/1", 0);
        stopsAt("c0@0/0", 0);
        stopsAt("c0@0/6", 0);
        stopsAt("c1@0/1", 0);
        stopsAt("p0+0", 0);
        stopsAt("p0+101", 0);
        stopsAt("p1+1", 0);
        stopsAt("d1", 0);
        stopsAt("w1", 0);
        stopsAt("s0", 0);
        stopsAt("s2", 0);
        stopsAt("t0", 0);
        stopsAt("t401", 0);
        stopsAt("t9999", 0);
        stopsAt("n0;d0;d0", 2);
        stopsAt("w0;l7;l8;w0", 3);
    }

    static void promise24BadText() {
        Due.changesNothing("24: carryOut with a fault", x -> {
            x.lot(1);
            Due.putText(x, "l1;l2;");
        }, x -> Due.due("24: a text with a fault at its end", x.carryOut(), Due.BAD_TEXT));
        Due.changesNothing("24: carryOut of nothing", x -> x.lot(1),
            x -> Due.due("24: an empty text", x.carryOut(), Due.BAD_TEXT));
        EscheatLots x = new EscheatLots();
        Due.putText(x, "l1;l2;");
        x.carryOut();
        Due.putText(x, "l3");
        Due.due("24: the pad stays, and can be mended", x.carryOut(), 3);
    }

    static void promise24IsOneChange() {
        Due.isOneChange("24: carryOut", x -> x.lot(3), x -> Due.carry(x, "l4;n0;n1;c1@0/1;t9"));
        Due.isOneChange("24: carryOut of none", x -> x.lot(3), x -> Due.carry(x, "n1;n0"));
        EscheatLots x = Due.after(y -> y.lot(3));
        Due.carry(x, "l4;l5");
        Due.putText(x, "l6");
        x.undo();
        Due.due("24: undo keeps the pad", x.count(19), 2);
        Due.due("24: the lots", x.count(1), 1);
        Due.due("24: the old text is not back", x.carryOut(), 1);
        Due.due("24: the lots", x.count(1), 2);
    }

    static void promise24History() {
        EscheatLots x = new EscheatLots();
        for (int i = 0; i < 8; i++) {
            Due.carry(x, "l1;t1");
        }
        Due.due("24: six texts can be undone", x.count(20), 6);
        for (int left = 5; left >= 0; left--) {
            Due.due("24: undo", x.undo(), left);
            Due.due("24: the day", x.count(0), left + 2);
        }
        Due.due("24: the seventh", x.undo(), Due.NOT_POSSIBLE);
    }
}
