/** The bounds that promises 21 to 24 name. */
public final class BoundsOfTextsTest {
    public static void main(String[] args) {
        States.check();
        promise21Lengths();
        promise21Codes();
        promise21Refused();
        promise21EightyCharacters();
        promise22Ends();
        promise23Numbers();
        promise23Digits();
        promise23TooEarly();
        promise23EightyCharacters();
        promise24Refused();
        promise24EmptiesThePad();
        promise24EachOrderRefused();
        promise24LimitsWithinAText();
        promise24OneState();
        promise24NumbersAtTheirEnds();
        Due.end();
    }

    private static Due.Steps pad(String text) {
        return x -> Due.putText(x, text);
    }

    private static String times(String text, int times) {
        return text.repeat(times);
    }

    // ---- promise 21

    static void promise21Lengths() {
        String text = "l1;l2;l3";
        for (int length = 1; length <= 8; length++) {
            EscheatLots x = new EscheatLots();
            Due.due("21: " + length + " characters", x.put(Due.packed(text.substring(0, length))), length);
            Due.due("21: " + length + " more", x.put(Due.packed(text.substring(0, length))), 2 * length);
        }
        EscheatLots x = new EscheatLots();
        x.put(Due.packed("l9876;n0"));
        x.put(Due.packed(";c5@0/4;"));
        x.put(Due.packed("p0+73;d0"));
        Due.due("21: eight at a time, in their order", x.carryOut(), 5);
        Due.due("21: the value", x.of(0, 0), 9876);
        Due.due("21: the heir", x.ofClaim(0, 0), 5);
        Due.due("21: the line", x.ofClaim(0, 2), 4);
        Due.due("21: the proof", x.ofClaim(0, 3), 73);
        EscheatLots one = new EscheatLots();
        for (char sign : "l12;t3".toCharArray()) {
            one.put(sign);
        }
        Due.due("21: one at a time", one.carryOut(), 2);
        Due.due("21: the value", one.of(0, 0), 12);
        Due.due("21: the day", one.count(0), 3);
    }

    /** Both sides of both ends of the codes, at each place of the eight, with nothing above them or with all. */
    static void promise21Codes() {
        for (int place = 0; place < 8; place++) {
            long below = Due.packed("llllllll".substring(0, place));
            long above = place == 7 ? 0 : Due.packed("llllllll") << 8 * (place + 1);
            for (long code : new long[] {1, 9, 10, 32, 127, 128, 160, 254, 255}) {
                long alone = code << 8 * place | below;
                String first = "21: code " + code + " as the first of " + (place + 1);
                Due.refused(first, States::rich, x -> x.put(alone), Due.BAD_VALUE);
                long within = alone | above;
                Due.refused("21: code " + code + " at " + place, States::rich, x -> x.put(within), Due.BAD_VALUE);
            }
            for (long code : new long[] {33, 34, 125, 126}) {
                EscheatLots x = new EscheatLots();
                Due.due("21: code " + code + " as the first of " + (place + 1), x.put(code << 8 * place | below), place + 1);
                Due.due("21: code " + code + " at " + place, x.put(code << 8 * place | below | above), place + 9);
            }
        }
    }

    static void promise21Refused() {
        long[] bad = {0, -1, Long.MIN_VALUE, Long.MAX_VALUE, Long.MIN_VALUE + 'l', 1L << 32, 1L << 63 | 'l', 'l' << 8,
            (long) 'l' << 56, (long) 'l' << 16 | 'l', (long) 'l' << 32 | 'l', (long) 'l' << 56 | 'l', 256L + 'l', 1L << 40 | 'l',
            Integer.MIN_VALUE, Integer.MAX_VALUE, -'l', 0x6C006C00L, 0x6C00000000000000L, 0x6C6C6C6C6C6C6C00L,
            0x6C006C6C6C6C6C6CL, 0x016C6C6C6C6C6C6CL, 0x806C6C6C6C6C6C6CL, 0x7F6C6C6C6C6C6C6CL};
        for (long characters : bad) {
            Due.refused("21: put(" + characters + ")", States::rich, x -> x.put(characters), Due.BAD_VALUE);
            Due.refused("21: put(" + characters + ") to an empty pad", States::nothing, x -> x.put(characters), Due.BAD_VALUE);
            Due.refused("21: put(" + characters + ") to a full pad", States::full, x -> x.put(characters), Due.BAD_VALUE);
        }
    }

    static void promise21EightyCharacters() {
        String text = "l9;l8;l7";
        for (int length = 1; length <= 8; length++) {
            long characters = Due.packed(text.substring(0, length));
            Due.Steps fits = pad(times("1", 80 - length));
            Due.due("21: " + length + " to make 80", Due.after(fits).put(characters), 80);
            Due.refused("21: " + length + " to make 81", pad(times("1", 81 - length)), x -> x.put(characters), Due.TOO_MANY);
            Due.refused("21: " + length + " to a full pad", States::full, x -> x.put(characters), Due.TOO_MANY);
        }
        Due.Steps most = pad("t1" + times(";t1", 25));
        EscheatLots x = Due.after(most);
        Due.due("21: 77 characters", x.count(19), 77);
        Due.due("21: four would be 81", x.put(Due.packed(";t10")), Due.TOO_MANY);
        Due.due("21: none of them is there", x.carryOut(), 26);
        EscheatLots y = Due.after(most);
        Due.due("21: three are 80", y.put(Due.packed(";t9")), 80);
        Due.due("21: no more", y.put('0'), Due.TOO_MANY);
        Due.due("21: all are there", y.carryOut(), 27);
        Due.due("21: the last one, too", y.count(0), 26 + 9);
        Due.due("21: there is room again", y.put('l'), 1);
    }

    // ---- promise 22

    static void promise22Ends() {
        EscheatLots x = new EscheatLots();
        Due.due("22: an empty pad", x.wipe(), 0);
        Due.due("22: it is empty yet", x.count(19), 0);
        for (int length = 1; length <= 80; length++) {
            EscheatLots filled = Due.after(pad(times("l", length)));
            Due.due("22: wipe of " + length, filled.wipe(), length);
            Due.due("22: nothing is left of " + length, filled.count(19), 0);
            Due.due("22: the fault is that of an empty pad", filled.fault(), 0);
            Due.due("22: there is nothing to wipe", filled.wipe(), 0);
        }
        EscheatLots y = Due.after(States::rich);
        String known = Due.known(y);
        Due.due("22: a pad with orders", y.wipe(), 9);
        Due.due("22: it is no change", y.count(20), 6);
        Due.due("22: nothing else is different", Due.known(y), known);
    }

    // ---- promise 23

    private static void faultIs(String text, int fault) {
        EscheatLots x = Due.after(pad(text));
        Due.due("23: fault of '" + text + "'", x.fault(), fault);
        Due.changesNothing("23: fault of '" + text + "'", pad(text), EscheatLots::fault);
        if (fault != Due.NONE) {
            Due.refused("24: carryOut of '" + text + "'", pad(text), EscheatLots::carryOut, Due.BAD_TEXT);
        }
    }

    /** Every place of a number, with numbers at their ends, with leading zeros, and with a digit too many. */
    static void promise23Numbers() {
        String[][] places = {{"l", ""}, {"n", ""}, {"d", ""}, {"w", ""}, {"s", ""}, {"t", ""}, {"p", "+7"}, {"p7+", ""},
            {"c", "@7/1"}, {"c7@", "/1"}};
        for (String[] place : places) {
            int at = place[0].length();
            for (String number : new String[] {"0", "1", "9", "10", "99", "100", "999", "1000", "9998", "9999"}) {
                faultIs(place[0] + number + place[1], Due.NONE);
                faultIs("l1;" + place[0] + number + place[1] + ";t1", Due.NONE);
            }
            for (String number : new String[] {"10000", "99990", "99999", "12345", "123456", "10000000"}) {
                faultIs(place[0] + number + place[1], at + 4);
                faultIs("l1;" + place[0] + number + place[1], at + 7);
            }
            for (String number : new String[] {"00", "01", "09", "000", "0000", "00000", "09999", "010"}) {
                faultIs(place[0] + number + place[1], at + 1);
            }
            for (String number : new String[] {"", "-1", "+1", "x", "/", ":", ";", "@"}) {
                faultIs(place[0] + number + place[1], at);
            }
        }
    }

    static void promise23Digits() {
        for (char digit = '0'; digit <= '9'; digit++) {
            faultIs("c1@2/" + digit, Due.NONE);
            faultIs("c1@2/" + digit + ";l1", Due.NONE);
            faultIs("c1@2/" + digit + digit, 6);
            faultIs("c1@2/" + digit + "0", 6);
        }
        for (char sign : "/:;@+-lc".toCharArray()) {
            faultIs("c1@2/" + sign, 5);
        }
    }

    /** A text that ends too early has its fault behind its end. */
    static void promise23TooEarly() {
        faultIs("", 0);
        for (String start : new String[] {"", "l1;", "t400;n0;"}) {
            for (String early : new String[] {"l", "n", "d", "w", "s", "t", "p", "c", "p0", "p0+", "p10", "p9999+", "c0", "c0@",
                "c9999@", "c0@9999", "c0@0/", "l1;", "p1+1;", "c1@1/1;", "t9999;"}) {
                faultIs(start + early, start.length() + early.length());
            }
        }
    }

    static void promise23EightyCharacters() {
        String most = "t1" + times(";t1", 26);
        faultIs(most, Due.NONE);
        faultIs(most.substring(0, 79), 79);
        faultIs(most.substring(0, 78), 78);
        faultIs(most.substring(0, 77), Due.NONE);
        faultIs(most.substring(0, 79) + "x", 79);
        faultIs(most.substring(0, 79) + ";", 79);
        faultIs(most.substring(0, 77) + ";t", 79);
        faultIs(most.substring(0, 77) + "00;", 80);
        faultIs(most.substring(0, 77) + "000", Due.NONE);
        faultIs(most.substring(0, 76) + "000;", 77);
        faultIs("l10" + times(";l10", 19) + ";", 80);
        faultIs(times("l", 80), 1);
        faultIs(times("1", 80), 0);
        faultIs("x" + times("t", 79), 0);
        faultIs("c9999@9999/9;c9999@9999/9;c9999@9999/9;c9999@9999/9;c9999@9999/9;p9999+9999;l99", Due.NONE);
        faultIs("c9999@9999/9;c9999@9999/9;c9999@9999/9;c9999@9999/9;c9999@9999/9;p9999+9999;l999", Due.NONE);
        faultIs("c9999@9999/9;c9999@9999/9;c9999@9999/9;c9999@9999/9;c9999@9999/9;c9999@9999/9;l", 79);
        faultIs("c9999@9999/9;c9999@9999/9;c9999@9999/9;c9999@9999/9;c9999@9999/9;c9999@9999/9;p9", 80);
    }

    // ---- promise 24

    static void promise24Refused() {
        Due.refused("24: an empty pad", States::nothing, EscheatLots::carryOut, Due.BAD_TEXT);
        for (String text : new String[] {"l7;", "l7;x", "l7;l07", "l7;l10000", "l0;", "n0;n", "t400;t400;;", "x", "l7;l8+"}) {
            Due.refused("24: carryOut of '" + text + "'", pad(text), EscheatLots::carryOut, Due.BAD_TEXT);
            Due.refused("24: carryOut of '" + text + "' behind others", x -> {
                States.rich(x);
                x.wipe();
                Due.putText(x, text);
            }, EscheatLots::carryOut, Due.BAD_TEXT);
        }
        EscheatLots x = Due.after(pad("l7;"));
        x.carryOut();
        Due.due("24: the pad stays", x.count(19), 3);
        Due.due("24: nothing was carried out", x.count(1), 0);
        Due.due("24: nothing can be undone", x.undo(), Due.NOT_POSSIBLE);
    }

    static void promise24EmptiesThePad() {
        for (String text : new String[] {"l1", "l0", "l1;l0;l1", "n0", "t1" + times(";t1", 26)}) {
            EscheatLots x = Due.after(pad(text));
            Due.due("24: it is carried out, '" + text + "'", x.carryOut() >= 0 ? 1 : 0, 1);
            Due.due("24: the pad is empty then", x.count(19), 0);
            Due.due("24: its fault is that of an empty one", x.fault(), 0);
            Due.due("24: a second time", x.carryOut(), Due.BAD_TEXT);
            Due.due("24: one change", x.count(20), 1);
            Due.due("24: it is undone", x.undo(), 0);
            Due.due("24: the pad is empty yet", x.count(19), 0);
            Due.due("24: it is as at first", Due.known(x), Due.known(new EscheatLots()));
        }
    }

    /** Orders ahead of one that returns an error stay, it changes nothing, and none behind it is carried out. */
    private static void stopsAt(Due.Steps before, String order) {
        Due.Steps emptied = x -> {
            before.on(x);
            x.wipe();
        };
        String known = Due.known(Due.after(emptied));
        EscheatLots x = Due.after(emptied);
        int changes = x.count(20);
        Due.due("24: '" + order + "' alone", Due.carry(x, order), 0);
        Due.due("24: '" + order + "' alone is a change", x.count(20), Math.min(6, changes + 1));
        Due.due("24: '" + order + "' alone changes nothing", Due.known(x), known);
        EscheatLots undone = Due.after(emptied);
        Due.carry(undone, order);
        Due.due("24: '" + order + "' alone is undone", undone.undo(), Math.min(5, changes));
        Due.due("24: '" + order + "' alone is undone", Due.known(undone), known);
        EscheatLots y = Due.after(emptied);
        Due.due("24: '" + order + "' ahead of another", Due.carry(y, order + ";l7;t1"), 0);
        Due.due("24: '" + order + "' ahead of another", Due.known(y), known);
        Due.due("24: the pad is empty", y.count(19), 0);
    }

    static void promise24EachOrderRefused() {
        for (String order : new String[] {"l0", "n1", "n2", "n3", "n4", "n5", "n9999", "c16@0/1", "c9999@0/1", "c0@5/1", "c0@0/0",
            "c0@0/6", "c0@0/9", "c9@2/1", "c9@4/1", "c3@0/2", "c4@0/2", "p3+0", "p3+101", "p3+9999", "p4+1", "p7+1", "p7+0",
            "p4+0", "d0", "d4", "d7", "d9999", "w0", "w2", "w5", "w6", "w7", "s0", "s1", "s2", "s3", "s4", "s5", "t0", "t401",
            "t9999"}) {
            stopsAt(States::rich, order);
        }
        stopsAt(States::full, "l1");
        stopsAt(States::full, "l0");
        stopsAt(States::full, "c0@5/1");
        stopsAt(States::full, "c0@3/1");
        stopsAt(States::lastDay, "t1");
        stopsAt(States::lastDay, "t400");
        stopsAt(States::lastDay, "t401");
    }

    static void promise24LimitsWithinAText() {
        EscheatLots lots = new EscheatLots();
        Due.due("24: twelve lots and one more", Due.carry(lots, "l1" + times(";l1", 12)), 12);
        Due.due("24: there are twelve", lots.count(1), 12);
        EscheatLots claims = Due.after(x -> x.lot(9));
        for (int text = 0; text < 4; text++) {
            StringBuilder orders = new StringBuilder("t1");
            for (int claim = 7 * text; claim < 7 * text + 7; claim++) {
                orders.append(";c0@0/1;w").append(claim);
            }
            Due.due("24: claims of text " + text, Due.carry(claims, orders.toString()), 15);
        }
        Due.due("24: thirty claims and one more", Due.carry(claims, "c0@0/1;w28;c1@0/1;c2@0/1;t1"), 3);
        Due.due("24: there are thirty", claims.count(2), 30);
        Due.due("24: the order behind it is not carried out", claims.count(0), 4);
        EscheatLots days = Due.after(x -> States.toDay(x, 9597));
        Due.due("24: to the last day and above", Due.carry(days, "t400;t1;t2;l5"), 2);
        Due.due("24: the day", days.count(0), 9998);
        Due.due("24: to the last day", Due.carry(days, "t1;l5;t1;l6"), 2);
        Due.due("24: the last day", days.count(0), 9999);
        Due.due("24: one lot", days.count(1), 1);
    }

    /** However many orders a text has, it records one state; the oldest one is dropped for it. */
    static void promise24OneState() {
        EscheatLots x = new EscheatLots();
        for (int changes = 1; changes <= 8; changes++) {
            Due.due("24: 27 orders", Due.carry(x, "t1" + times(";t1", 26)), 27);
            Due.due("24: states", x.count(20), Math.min(6, changes));
        }
        for (int left = 5; left >= 0; left--) {
            Due.due("24: undo", x.undo(), left);
            Due.due("24: the day", x.count(0), 27 * (left + 2));
        }
        Due.due("24: the seventh", x.undo(), Due.NOT_POSSIBLE);
        EscheatLots none = new EscheatLots();
        for (int changes = 1; changes <= 8; changes++) {
            Due.due("24: none is carried out", Due.carry(none, "l0"), 0);
            Due.due("24: it is a change", none.count(20), Math.min(6, changes));
        }
    }

    static void promise24NumbersAtTheirEnds() {
        EscheatLots x = new EscheatLots();
        Due.due("24: the least and the greatest", Due.carry(x, "l1;l9999;n0;n1;c0@0/1;c15@1/5;p0+1;p1+100;t1;t400"), 10);
        Due.due("24: the greatest value", x.of(1, 0), 9999);
        Due.due("24: the last heir", x.ofClaim(1, 0), 15);
        Due.due("24: the farthest line", x.ofClaim(1, 2), 5);
        Due.due("24: the least proof", x.ofClaim(0, 3), 1);
        Due.due("24: the whole proof", x.ofClaim(1, 3), 100);
        Due.due("24: the day", x.count(0), 401);
        EscheatLots y = Due.after(States::full);
        Due.due("24: the last lot and the last claim", Due.carry(y, "n11;p29+60;d29;w28"), 4);
        Due.due("24: the last lot", y.of(11, 1), 1);
        Due.due("24: the last claim", y.ofClaim(29, 4), 1);
        Due.due("24: the one ahead of it", y.ofClaim(28, 4), 3);
    }
}
