/** Promises 1 to 9. */
public final class LampsTest {
    private static final int BAD = LampOrder.BAD, FULL = LampOrder.FULL, NONE = LampOrder.NONE, KIND = LampOrder.KIND;
    private static final Due due = new Due();

    public static void main(String[] args) {
        newObject();
        lamp();
        told();
        drinks();
        as();
        turns();
        set();
        deal();
        seed();
        due.end();
    }

    private static void newObject() {
        LampOrder x = new LampOrder();
        int[] counts = {0, 0, 0, 0, 600, 0, 0, 0, 1};
        for (int what = 0; what < counts.length; what++) {
            due.is("1: count(" + what + ")", x.count(what), counts[what]);
        }
        for (int what = 0; what < 4; what++) {
            due.is("1: street(" + what + ")", x.street(what), 0);
            due.is("1: reads(" + what + ")", x.reads(what), LampOrder.NOTHING);
        }
        for (int slot = 0; slot < 5; slot++) {
            due.is("1: item(" + slot + ", 0)", x.item(slot, 0), LampOrder.NOTHING);
        }
        for (int key = 0; key < 3; key++) {
            due.is("1: why(" + key + ")", x.why(key), NONE);
        }
        due.is("1: told(0, 0)", x.told(0, 0), BAD);
        due.is("1: dark(0)", x.dark(0), 0);
        due.is("1: back()", x.back(), LampOrder.NO);
        due.is("1: fee()", x.fee(), 0);
    }

    private static void lamp() {
        LampOrder x = new LampOrder();
        int[][] wrong = {{-1, 0, 0, 0}, {6, 0, 0, 0}, {0, -1, 0, 0}, {0, 100, 0, 0}, {0, 0, -1, 0}, {0, 0, 1000, 0}, {0, 0, 0, -1}, {0, 0, 0, 100},
            {Integer.MIN_VALUE, 0, 0, 0}, {0, Integer.MAX_VALUE, 0, 0}};
        for (int[] w : wrong) {
            due.is("2: wrong lamp", x.lamp(w[0], w[1], w[2], w[3]), BAD);
        }
        due.is("2: no wrong one came", x.count(0), 0);
        due.is("2: lamp(5, 99, 999, 99)", x.lamp(5, 99, 999, 99), 0);
        due.is("2: lamp(0, 0, 0, 0)", x.lamp(0, 0, 0, 0), 1);
        for (int i = 2; i < 10; i++) {
            due.is("2: lamp " + i, x.lamp(1, i, i, i), i);
        }
        due.is("2: an eleventh", x.lamp(0, 0, 0, 0), FULL);
        due.is("2: a wrong eleventh", x.lamp(6, 0, 0, 0), BAD);
        due.is("2: ten", x.count(0), 10);
        int[] whole = {5, 99, 999, 99, 0, 0, 0};
        int[] seventh = {1, 7, 7, 7, 7, 0, 0};
        for (int what = 0; what < 7; what++) {
            due.is("2: told(0, " + what + ")", x.told(0, what), whole[what]);
            due.is("2: told(7, " + what + ")", x.told(7, what), seventh[what]);
        }
    }

    private static void told() {
        LampOrder x = new LampOrder();
        for (int kind = 0; kind < 6; kind++) {
            x.lamp(kind, 20, 41, 5);
        }
        x.rule(1, 3);
        // 410 less 3 * 41 / 2 = 61 for the LAMP; all others from that.
        int[] burns = {349, 379, 329, 410, 164, 9999};
        int[] worth = {20, 26, 79, 52, 75, 3};
        for (int kind = 0; kind < 6; kind++) {
            due.is("3: KIND " + kind, x.told(kind, 0), kind);
            due.is("3: BURNS of " + kind, x.told(kind, 7), burns[kind]);
            due.is("3: WORTH of " + kind, x.told(kind, 8), worth[kind]);
            x.set(kind, 2, 1);
        }
        x.rule(1, 9);
        // 10 less 9 / 2 = 4: below the 20 of the OPEN.
        int[] little = {6, 8, 0, 10, 0, 9999};
        for (int kind = 0; kind < 6; kind++) {
            due.is("3: BURNS of " + kind + " with little", x.told(kind, 7), little[kind]);
        }
        x.set(4, 1, 99);
        due.is("3: WORTH of a LEAKY at the end", x.told(4, 8), -4);
        due.is("3: told(-1, 0)", x.told(-1, 0), BAD);
        due.is("3: told(6, 0)", x.told(6, 0), BAD);
        due.is("3: told(0, -1)", x.told(0, -1), BAD);
        due.is("3: told(0, 9)", x.told(0, 9), BAD);
    }

    private static void drinks() {
        LampOrder x = new LampOrder();
        for (int kind = 0; kind < 6; kind++) {
            x.lamp(kind, 20, 12, 5);
        }
        int[][] drunk = {{0, 0, 0, 0, 5, 0}, {1, 1, 1, 1, 6, 0}, {11, 11, 11, 11, 12, 0}, {12, 12, 12, 12, 12, 0}};
        int[] minutes = {9, 19, 119, 999};
        for (int i = 0; i < minutes.length; i++) {
            for (int kind = 0; kind < 6; kind++) {
                due.is("4: drinks(" + kind + ", " + minutes[i] + ")", x.drinks(kind, minutes[i]), drunk[i][kind]);
            }
        }
        x.set(4, 2, 3);
        due.is("4: a LEAKY drinks no more than it has", x.drinks(4, 0), 3);
        due.is("4: drinks(0, -1)", x.drinks(0, -1), BAD);
        due.is("4: drinks(0, 1000)", x.drinks(0, 1000), BAD);
        due.is("4: drinks(6, 0)", x.drinks(6, 0), BAD);
        due.is("4: nothing is drunk by it", x.told(0, 2), 12);
    }

    private static void as() {
        LampOrder x = new LampOrder();
        for (int kind = 0; kind < 6; kind++) {
            x.lamp(kind, 30 + kind, 12, 5);
        }
        String[] are = {"0", "01", "02", "013", "024", "05"};
        for (int lamp = 0; lamp < 6; lamp++) {
            for (int kind = 0; kind < 6; kind++) {
                boolean is = are[lamp].indexOf('0' + kind) >= 0;
                due.is("5: as(" + lamp + ", " + kind + ")", x.as(lamp, kind), is ? 30 + lamp : KIND);
            }
        }
        due.is("5: as(6, 0)", x.as(6, 0), BAD);
        due.is("5: as(-1, 0)", x.as(-1, 0), BAD);
        due.is("5: as(0, 6)", x.as(0, 6), BAD);
        due.is("5: as(0, -1)", x.as(0, -1), BAD);
    }

    private static void turns() {
        LampOrder x = new LampOrder();
        x.lamp(1, 20, 30, 40);
        x.nights(1);
        int[] before = new int[7];
        for (int what = 1; what < 7; what++) {
            before[what] = x.told(0, what);
        }
        due.is("6: turns(0, 4)", x.turns(0, 4), 1);
        due.is("6: turns(0, 4) again", x.turns(0, 4), 4);
        due.is("6: it is", x.told(0, 0), 4);
        for (int what = 1; what < 7; what++) {
            due.is("6: the rest stays, " + what, x.told(0, what), before[what]);
        }
        due.is("6: turns(1, 0)", x.turns(1, 0), BAD);
        due.is("6: turns(0, 6)", x.turns(0, 6), BAD);
        due.is("6: turns(0, -1)", x.turns(0, -1), BAD);
        due.is("6: it still is", x.told(0, 0), 4);
    }

    private static void set() {
        LampOrder x = new LampOrder();
        x.lamp(0, 1, 2, 3);
        int[] most = {0, 99, 999, 99, 9999};
        int[] was = {0, 1, 2, 3, 0};
        for (int what = 1; what <= 4; what++) {
            due.is("7: set(0, " + what + ", most)", x.set(0, what, most[what]), was[what]);
            due.is("7: above it", x.set(0, what, most[what] + 1), BAD);
            due.is("7: below 0", x.set(0, what, -1), BAD);
            due.is("7: it is the most", x.told(0, what), most[what]);
            due.is("7: set(0, " + what + ", 0)", x.set(0, what, 0), most[what]);
            due.is("7: it is 0", x.told(0, what), 0);
        }
        due.is("7: set(0, 0, 0)", x.set(0, 0, 0), BAD);
        due.is("7: set(0, 5, 0)", x.set(0, 5, 0), BAD);
        due.is("7: set(1, 1, 0)", x.set(1, 1, 0), BAD);
        due.is("7: set(-1, 1, 0)", x.set(-1, 1, 0), BAD);
    }

    private static void deal() {
        LampOrder x = new LampOrder();
        due.is("8: deal(0)", x.deal(0), BAD);
        due.is("8: deal(11)", x.deal(11), BAD);
        due.is("8: z stays", x.count(8), 1);
        due.is("8: deal(2)", x.deal(2), 2);
        int[][] drawn = {{2, 32, 36, 3, 0, 0, 0}, {1, 36, 70, 6, 1, 0, 0}};
        for (int lamp = 0; lamp < 2; lamp++) {
            for (int what = 0; what < 7; what++) {
                due.is("8: told(" + lamp + ", " + what + ")", x.told(lamp, what), drawn[lamp][what]);
            }
        }
        due.is("8: eight draws", x.count(8), -1661227463);
        x.deal(7);
        x.seed(1);
        due.is("8: there is room for one", x.deal(10), 1);
        due.is("8: four draws", x.count(8), -999580867);
        due.is("8: there is no room", x.deal(1), 0);
        due.is("8: no draws", x.count(8), -999580867);
        due.is("8: wrong, without room", x.deal(-1), BAD);
    }

    private static void seed() {
        LampOrder x = new LampOrder();
        due.is("9: seed(MIN)", x.seed(Integer.MIN_VALUE), 1);
        due.is("9: seed(-7)", x.seed(-7), Integer.MIN_VALUE);
        due.is("9: it is", x.count(8), -7);
    }
}
