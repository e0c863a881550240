/** Promises 39 to 43. */
public final class RowsTest {
    private static final int BAD = LampOrder.BAD, NO = LampOrder.NO, FULL = LampOrder.FULL;
    private static final Due due = new Due();

    public static void main(String[] args) {
        tell();
        checkRefused();
        check();
        checkByHand();
        checkAtTheEnd();
        keepBack();
        textsInTheImage();
        count();
        due.end();
    }

    private static void tell() {
        LampOrder x = new LampOrder();
        for (int i = 1; i <= 60; i++) {
            due.is("39: tell", x.tell(i), i);
        }
        due.is("39: one more", x.tell(0), FULL);
        due.is("39: sixty", x.count(6), 60);
        x.check(1);
        due.is("39: anew", x.tell(5), 1);
    }

    private static void checkRefused() {
        LampOrder x = new LampOrder();
        for (int n : new int[] {0, 31, -1}) {
            x.tell(1);
            due.is("40: check(" + n + ")", x.check(n), BAD);
            due.is("40: none wait then", x.count(6), 0);
        }
        x.tell(1);
        due.is("40: no IMAGE", x.check(30), NO);
        due.is("40: none wait then", x.count(6), 0);
    }

    private static int[] nightsTold(LampOrder x, int n) {
        int lamps = x.count(0);
        int[] rows = new int[2 * n];
        for (int i = 0; i < n; i++) {
            x.nights(1);
            rows[2 * i] = x.street(0);
            for (int lamp = 0; lamp < lamps; lamp++) {
                rows[2 * i + 1] += x.told(lamp, 4);
            }
        }
        return rows;
    }

    private static int checked(LampOrder x, int n, int many, int... rows) {
        for (int i = 0; i < many; i++) {
            x.tell(rows[i]);
        }
        return x.check(n);
    }

    private static LampOrder kept() {
        LampOrder x = new LampOrder();
        x.deal(7);
        x.nights(5);
        x.keep();
        return x;
    }

    /** The street has gone on, but THE IMAGE stays. */
    private static LampOrder goneOn() {
        LampOrder x = kept();
        x.nights(30);
        x.rule(0, 1);
        x.deal(3);
        return x;
    }

    private static void check() {
        int[] rows = nightsTold(kept(), 30);
        LampOrder x = goneOn();
        due.is("40: thirty nights", checked(x, 30, 60, rows), 0);
        due.is("40: none wait then", x.count(6), 0);
        due.is("40: one night", checked(x, 1, 2, rows), 0);
        due.is("40: one missing", checked(x, 30, 59, rows), 60);
        due.is("40: all missing", x.check(30), 1);
        due.is("40: one too many", checked(x, 4, 9, rows), 9);
        due.is("40: many too many", checked(x, 4, 60, rows), 9);
        for (int wrong : new int[] {0, 1, 17, 58, 59}) {
            int[] other = rows.clone();
            other[wrong]++;
            due.is("40: wrong at " + wrong, checked(goneOn(), 30, 60, other), 1 + wrong);
        }
        due.is("40: nothing changes", x.count(1), 35);
        x.back();
        due.is("40: nor THE IMAGE", x.count(1), 5);
    }

    private static void checkByHand() {
        LampOrder x = new LampOrder();
        x.lamp(0, 10, 40, 20);
        x.lamp(5, 10, 0, 0);
        x.keep();
        // The LAMP goes out at 331 and 263, the CANAL at 600; 12 minutes are walked each night, both times it is WALKED that is told.
        due.is("40: by hand", checked(x, 2, 4, 12, 931, 24, 863), 0);
    }

    private static void checkAtTheEnd() {
        LampOrder x = new LampOrder();
        x.lamp(0, 0, 0, 0);
        for (int i = 0; i < 100; i++) {
            x.nights(i < 99 ? 100 : 98);
        }
        due.is("40: THE NIGHT", x.count(1), 9998);
        x.keep();
        due.is("40: one night is left", checked(x, 30, 2, 9999, 1), 0);
        due.is("40: no second one", checked(x, 30, 4, 9999, 1, 10000, 1), 3);
        x.nights(1);
        x.keep();
        due.is("40: none is left", x.check(5), 0);
        due.is("40: one too many", checked(x, 5, 1, 1), 1);
    }

    private static void keepBack() {
        LampOrder x = new LampOrder();
        due.is("42: none", x.back(), NO);
        due.is("41: nobody", x.keep(), 0);
        x.deal(4);
        due.is("42: nobody again", x.back(), 0);
        due.is("42: z", x.count(8), 1);
        x.lamp(0, 9, 0, 0);
        x.nights(2);
        x.back();
        x.lamp(0, 9, 0, 0);
        due.is("2: LIT of a new one where one was", x.told(0, 5), 0);
        due.is("2: DARKS of a new one where one was", x.told(0, 6), 0);
        x.back();
        x.deal(4);
        x.rule(0, 1);
        x.rule(2, 500);
        x.nights(7);
        due.is("41: four", x.keep(), 4);
        String kept = Tools.picture(x);
        for (int again = 0; again < 3; again++) {
            x.nights(3);
            x.lamp(1, 2, 3, 4);
            x.turns(0, 4);
            x.set(1, 1, 77);
            x.set(2, 3, 7);
            x.set(3, 2, 700);
            x.rule(0, 2);
            x.rule(1, 9);
            x.rule(2, 400);
            x.seed(5);
            due.is("42: four again", x.back(), 4);
            due.holds("42: all as it was", kept.equals(Tools.picture(x)));
        }
        x.tell(3);
        x.feed(1, 2, 3);
        x.sheet(0, 0, 3);
        x.lay(0, 3, 9);
        x.back();
        due.is("42: numbers that wait stay", x.count(6), 1);
        due.is("42: THE TAPE stays", x.count(7), 12);
        due.is("42: SHEETS stay", x.mark(0, 2, 1), 1);
        due.is("42: SLOTS stay", x.rest(0, 5), 4);
        x.nights(1);
        due.is("41: anew", x.keep(), 4);
        x.nights(1);
        x.back();
        due.is("42: as the newest", x.count(1), 8);
    }

    private static void textsInTheImage() {
        LampOrder x = new LampOrder();
        Tools.read(x, "fee 1");
        x.keep();
        Tools.read(x, "fee 2");
        Tools.read(x, "burn 3");
        due.is("27: told last", x.fee(), 2);
        x.back();
        due.is("42: TEXTS", x.count(5), 1);
        due.is("42: fee", x.fee(), 1);
        due.is("42: why(1)", x.why(1), 0);
        due.is("42: why(0)", x.why(0), LampOrder.NONE);
        due.is("42: textTold(1, 0)", x.textTold(1, 0), BAD);
        due.is("42: gone on from", Tools.read(x, "fine 4"), 1);
        x.lamp(0, 5, 10, 0);
        due.is("42: fine", x.fine(0), 4);
        x.keep();
        Tools.read(x, "burn 50");
        // THE IMAGE has no TEXT for burn: 100 - 4 * 10 / 2 from minute 6 on.
        due.is("40: by THE IMAGE's TEXTS", checked(x, 1, 2, 6, 86), 0);
        x.nights(1);
        due.is("27: the street's", x.told(0, 4), 56);
    }

    private static void count() {
        LampOrder x = new LampOrder();
        x.deal(3);
        x.nights(2);
        x.rule(0, 2);
        x.rule(2, 700);
        x.rule(1, 8);
        x.seed(-44);
        Tools.read(x, "fee 1");
        x.tell(1);
        x.tell(1);
        x.feed(0, 0, 0);
        x.trim(9);
        int[] want = {3, 2, 2, 8, 700, 1, 2, 9, -44};
        for (int what = 0; what < 9; what++) {
            due.is("43: count(" + what + ")", x.count(what), want[what]);
        }
        due.is("43: count(-1)", x.count(-1), BAD);
        due.is("43: count(9)", x.count(9), BAD);
    }
}
