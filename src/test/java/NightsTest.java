/** Promises 10 to 15. From z = 1 on the nights have WIND 4, 2, 6, 3, 7, 6, 0. */
public final class NightsTest {
    private static final int BAD = LampOrder.BAD;
    private static final Due due = new Due();

    public static void main(String[] args) {
        rule();
        order();
        oneLamp();
        dawn();
        dryLamps();
        kindsInANight();
        bounds();
        way();
        dark();
        street();
        due.end();
    }

    private static void rule() {
        LampOrder x = new LampOrder();
        int[] least = {0, 0, 60};
        int[] most = {2, 9, 999};
        int[] was = {0, 0, 600};
        for (int what = 0; what < 3; what++) {
            due.is("10: the most of " + what, x.rule(what, most[what]), was[what]);
            due.is("10: above", x.rule(what, most[what] + 1), BAD);
            due.is("10: below", x.rule(what, least[what] - 1), BAD);
            due.is("10: told", x.count(2 + what), most[what]);
            due.is("10: the least of " + what, x.rule(what, least[what]), most[what]);
            due.is("10: told", x.count(2 + what), least[what]);
        }
        due.is("10: rule(-1, 0)", x.rule(-1, 0), BAD);
        due.is("10: rule(3, 60)", x.rule(3, 60), BAD);
    }

    private static void checkOrder(LampOrder x, String what, int... want) {
        for (int i = 0; i < want.length; i++) {
            due.is("11: " + what + ", place " + i, x.order(i), want[i]);
        }
        due.is("11: " + what + ", behind", x.order(want.length), BAD);
        due.is("11: " + what + ", ahead", x.order(-1), BAD);
    }

    private static void order() {
        LampOrder x = new LampOrder();
        checkOrder(x, "nobody");
        int[] places = {5, 3, 5, 9, 3};
        int[] ended = {20, 40, 10, 20, 40};
        for (int i = 0; i < 5; i++) {
            x.lamp(0, places[i], 1, 1);
        }
        checkOrder(x, "at first", 0, 1, 2, 3, 4);
        for (int i = 0; i < 5; i++) {
            x.set(i, 4, ended[i]);
        }
        checkOrder(x, "LAW 0", 2, 0, 3, 1, 4);
        x.rule(0, 1);
        checkOrder(x, "LAW 1", 1, 4, 0, 3, 2);
        x.rule(0, 2);
        checkOrder(x, "LAW 2", 1, 4, 0, 2, 3);
    }

    private static void checkLamp(LampOrder x, String what, int lamp, int... oilEndedLitDarks) {
        int[] whats = {2, 4, 5, 6};
        for (int i = 0; i < 4; i++) {
            due.is("12: " + what + ", told(" + lamp + ", " + whats[i] + ")", x.told(lamp, whats[i]), oilEndedLitDarks[i]);
        }
    }

    private static void oneLamp() {
        LampOrder x = new LampOrder();
        x.lamp(0, 10, 40, 20);
        due.is("12: nights(1)", x.nights(1), 11);
        due.is("12: WIND 4", x.count(3), 4);
        due.is("12: z", x.count(8), 1103527590);
        // Burns 400 - 80 from 11 on, drinks 32, has 20 more at dawn.
        checkLamp(x, "one night", 0, 28, 331, 11, 0);
        due.is("12: nights(1) more", x.nights(1), 11);
        // Burns 280 - 28, drinks 25.
        checkLamp(x, "two nights", 0, 23, 263, 11, 0);
        due.is("12: THE NIGHT", x.count(1), 2);
        due.is("12: nights(3)", x.nights(3), 33);
        due.is("12: WIND 7", x.count(3), 7);
        for (int n : new int[] {0, 101, -1, Integer.MIN_VALUE}) {
            due.is("12: nights(" + n + ")", x.nights(n), BAD);
        }
        due.is("12: THE NIGHT stays", x.count(1), 5);
    }

    private static void dawn() {
        LampOrder x = new LampOrder();
        x.rule(2, 60);
        x.lamp(0, 58, 99, 0);
        x.lamp(0, 59, 99, 0);
        x.lamp(5, 59, 99, 7);
        due.is("12: nights by a short night", x.nights(1), 62);
        // One is lit a minute ahead of DAWN, one above it: that goes out as it is lit.
        checkLamp(x, "ahead of DAWN", 0, 99, 60, 59, 0);
        checkLamp(x, "above DAWN", 1, 99, 61, 61, 0);
        checkLamp(x, "above DAWN, a CANAL", 2, 106, 62, 62, 0);
        x.rule(2, 80);
        x.nights(1);
        checkLamp(x, "twenty minutes", 0, 97, 80, 59, 0);
        checkLamp(x, "nineteen minutes", 1, 98, 80, 61, 0);
    }

    private static void dryLamps() {
        LampOrder x = new LampOrder();
        for (int kind = 0; kind < 6; kind++) {
            x.lamp(kind, 0, 0, 0);
        }
        x.nights(3);
        for (int kind = 0; kind < 6; kind++) {
            due.is("12: DARKS of KIND " + kind, x.told(kind, 6), kind == 5 ? 0 : 3);
            due.is("12: OIL of KIND " + kind, x.told(kind, 2), 0);
        }
        due.is("12: goes out as it is lit", x.told(0, 4), x.told(0, 5));
        x.set(0, 3, 1);
        x.nights(1);
        due.is("12: what is poured at dawn is too late", x.told(0, 6), 4);
        x.nights(1);
        due.is("12: and burns the next night", x.told(0, 6), 4);
    }

    private static void kindsInANight() {
        LampOrder x = new LampOrder();
        int[] oil = {41, 41, 41, 41, 41, 41, 1, 999};
        int[] kinds = {0, 1, 2, 3, 4, 5, 4, 5};
        for (int i = 0; i < 8; i++) {
            x.lamp(kinds[i], 0, oil[i], 3);
        }
        due.is("12: eight at one PLACE", x.nights(1), 8);
        // WIND 4: as LAMP 410 - 82 = 328.
        checkLamp(x, "LAMP", 0, 41 - 32 + 3, 329, 1, 0);
        checkLamp(x, "SHELTERED", 1, 41 - 36 + 3, 371, 2, 0);
        checkLamp(x, "OPEN", 2, 41 - 30 + 3, 311, 3, 0);
        checkLamp(x, "GLAZED", 3, 41 - 41 + 3, 414, 4, 0);
        checkLamp(x, "LEAKY", 4, 41 - 15 - 5 + 3, 159, 5, 0);
        checkLamp(x, "CANAL", 5, 41 + 3, 600, 6, 0);
        checkLamp(x, "LEAKY with little", 6, 1 - 1 + 3, 7, 7, 0);
        checkLamp(x, "OIL at most", 7, 999, 600, 8, 0);
        // By ENDED: 6, 4, 2, 0, 1, 3, 5, 7.
        int[] order = {6, 4, 2, 0, 1, 3, 5, 7};
        for (int i = 0; i < 8; i++) {
            due.is("12: THE ORDER next, " + i, x.order(i), order[i]);
        }
        x.nights(1);
        for (int i = 0; i < 8; i++) {
            due.is("12: LIT next, " + i, x.told(order[i], 5), i + 1);
        }
    }

    private static void bounds() {
        LampOrder x = new LampOrder();
        x.lamp(0, 0, 10, 10);
        for (int i = 0; i < 99; i++) {
            due.is("12: a hundred", x.nights(100), 100);
        }
        due.is("12: up to 9999", x.nights(100), 99);
        int z = x.count(8);
        due.is("12: no more", x.nights(1), 0);
        due.is("12: THE NIGHT", x.count(1), 9999);
        due.is("12: no draw", x.count(8), z);
        due.is("12: wrong", x.nights(0), BAD);
        due.is("16: thought goes beyond", x.behind(5, 0), 9999 + 5);
    }

    private static void way() {
        LampOrder x = new LampOrder();
        due.is("13: nobody", x.way(), 0);
        x.lamp(0, 0, 1, 1);
        due.is("13: at the end", x.way(), 1);
        x.lamp(0, 30, 1, 1);
        x.lamp(0, 10, 1, 1);
        due.is("13: three", x.way(), 53);
        x.rule(0, 1);
        due.is("13: LAW 1", x.way(), 11 + 21 + 31);
        x.rule(0, 2);
        due.is("13: LAW 2", x.way(), 33);
        due.is("13: nothing is walked", x.street(0), 0);
        due.is("13: it is walked", x.nights(1), 33);
    }

    private static void dark() {
        LampOrder x = new LampOrder();
        due.is("14: nobody", x.dark(0), 0);
        for (int i = 0; i < 10; i++) {
            x.lamp(0, 0, 0, 0);
        }
        // ENDED is their number, LIT 0.
        due.is("14: at first, 0", x.dark(0), 1);
        due.is("14: at first, 4", x.dark(4), 31);
        due.is("14: at first, 9", x.dark(9), 1023);
        x.set(3, 2, 10);
        x.nights(1);
        // Number 3 is LIT at 4, burns 100 - 20; the others go out as they are lit.
        due.is("14: ahead of it", x.dark(3), 1023);
        due.is("14: as it is lit", x.dark(4), 1023 - 8);
        due.is("14: its last minute", x.dark(83), 1023 - 8);
        due.is("14: as it goes out", x.dark(84), 1023);
        due.is("14: 9999", x.dark(9999), 1023);
        due.is("14: 10000", x.dark(10000), BAD);
        due.is("14: -1", x.dark(-1), BAD);
    }

    private static void street() {
        LampOrder x = new LampOrder();
        x.lamp(0, 4, 0, 9);
        x.lamp(5, 8, 30, 20);
        x.nights(2);
        // The first is dark at first; the second night it burns 9 * 10 - 2 * 9 / 2 = 81 minutes, and drinks 8.
        int[] want = {2 * (5 + 5), 1, 9 - 8 + 9 + 70, 29};
        for (int what = 0; what < 4; what++) {
            due.is("15: street(" + what + ")", x.street(what), want[what]);
        }
        due.is("15: street(-1)", x.street(-1), BAD);
        due.is("15: street(4)", x.street(4), BAD);
    }
}
