/**
 * Promises 16 to 24. What is thought is told again by nights that are walked, on several streets. An object is used for 512
 * calls at most, so each walk is on one of its own that has come to the same place.
 */
public final class ThoughtTest {
    private static final int BAD = LampOrder.BAD, NONE = LampOrder.NONE;
    private static final Due due = new Due();

    public static void main(String[] args) {
        for (int seed = 1; seed <= 12; seed++) {
            LampOrder x = made(seed);
            String before = Tools.picture(x);
            behind(x, seed);
            round(x, seed);
            first(x, seed);
            leastLaw(x, seed);
            last(x, seed);
            oiled(x, seed);
            due.holds("nothing changes", before.equals(Tools.picture(x)));
        }
        wrongBehind();
        wrongRoundFirst();
        roundBounds();
        firstBounds();
        wrongLeastLast();
        lastByHand();
        sparedByHand();
        oiledByHand();
        feeFine();
        due.end();
    }

    private static LampOrder made(int seed) {
        LampOrder x = new LampOrder();
        x.seed(seed * 77);
        x.deal(2 + seed % 8);
        x.rule(0, seed % 3);
        if (seed % 4 == 0) {
            Tools.read(x, "burn o*8+s-w*w");
        }
        x.nights(seed);
        return x;
    }

    private static LampOrder walked(LampOrder x, int n) {
        for (int left = n; left > 0; left -= 100) {
            x.nights(Math.min(left, 100));
        }
        return x;
    }

    private static void behind(LampOrder x, int seed) {
        for (int n : new int[] {0, 1, 2, 17, 100}) {
            LampOrder y = walked(made(seed), n);
            for (int what = 0; what < 3; what++) {
                due.is("16: behind(" + n + ", " + what + ")", x.behind(n, what), y.street(what));
            }
            due.is("16: behind(" + n + ", 3)", x.behind(n, 3), y.order(0));
        }
    }

    private static String line(LampOrder x) {
        StringBuilder s = new StringBuilder();
        for (int i = 0; i < x.count(0); i++) {
            s.append(x.order(i));
        }
        return s.toString();
    }

    private static void round(LampOrder x, int seed) {
        String line = line(x);
        int found = NONE;
        for (int n = 1; n <= 200 && found == NONE; n++) {
            if (line(walked(made(seed), n)).equals(line)) {
                found = n;
            }
        }
        due.is("17: round()", x.round(), found);
    }

    private static void first(LampOrder x, int seed) {
        for (int lamp = 0; lamp < x.count(0); lamp++) {
            for (int n : new int[] {1, 4, 20}) {
                int found = NONE;
                for (int poured = 0; poured < 100 && found == NONE; poured++) {
                    LampOrder y = made(seed);
                    y.set(lamp, 3, poured);
                    if (walked(y, n).order(0) == lamp) {
                        found = poured;
                    }
                }
                due.is("18: first(" + lamp + ", " + n + ")", x.first(lamp, n), found);
            }
        }
    }

    private static void leastLaw(LampOrder x, int seed) {
        for (int n : new int[] {1, 9, 60}) {
            int least = Integer.MAX_VALUE;
            int best = -1;
            for (int law = 0; law < 3; law++) {
                LampOrder y = made(seed);
                y.rule(0, law);
                int minutes = walked(y, n).street(0);
                if (minutes < least) {
                    least = minutes;
                    best = law;
                }
            }
            due.is("19: leastLaw(" + n + ", 0)", x.leastLaw(n, 0), best);
            due.is("19: leastLaw(" + n + ", 1)", x.leastLaw(n, 1), least);
        }
    }

    private static void last(LampOrder x, int seed) {
        for (int n : new int[] {1, 9, 60}) {
            LampOrder y = made(seed);
            int[] counts = new int[10];
            for (int i = 0; i < n; i++) {
                counts[y.order(y.count(0) - 1)]++;
                y.nights(1);
            }
            int best = 0;
            for (int lamp = 1; lamp < 10; lamp++) {
                best = counts[lamp] > counts[best] ? lamp : best;
            }
            due.is("21: last(" + n + ", 0)", x.last(n, 0), best);
            due.is("21: last(" + n + ", 1)", x.last(n, 1), counts[best]);
        }
    }

    private static void oiled(LampOrder x, int seed) {
        int[] row = {200 + seed * 10, 0, 150, 400 - seed, NONE, 77};
        x.sheet(0, 1, row.length);
        for (int k = 0; k < row.length; k++) {
            x.mark(0, k, row[k]);
        }
        for (int lamp = 0; lamp < x.count(0); lamp++) {
            int least = Integer.MAX_VALUE;
            int best = -1;
            for (int oil = 0; oil < 100; oil++) {
                LampOrder y = made(seed);
                y.set(lamp, 2, oil);
                int together = 0;
                for (int number : row) {
                    y.nights(1);
                    together += number == NONE ? 0 : Math.abs(number - y.told(lamp, 4));
                }
                if (together < least) {
                    least = together;
                    best = oil;
                }
            }
            due.is("22: oiled(0, " + lamp + ", 0)", x.oiled(0, lamp, 0), best);
            due.is("22: oiled(0, " + lamp + ", 1)", x.oiled(0, lamp, 1), least);
        }
    }

    private static void wrongBehind() {
        LampOrder x = new LampOrder();
        due.is("16: nobody is first", x.behind(0, 3), NONE);
        due.is("16: nobody walks", x.behind(100, 0), 0);
        due.is("16: behind(-1, 0)", x.behind(-1, 0), BAD);
        due.is("16: behind(101, 3)", x.behind(101, 3), BAD);
        due.is("16: behind(0, -1)", x.behind(0, -1), BAD);
        due.is("16: behind(0, 4)", x.behind(0, 4), BAD);
    }

    private static void wrongRoundFirst() {
        LampOrder x = new LampOrder();
        due.is("17: nobody", x.round(), 1);
        x.lamp(0, 5, 5, 5);
        due.is("17: one", x.round(), 1);
        due.is("18: the only one", x.first(0, 1), 0);
        due.is("18: first(0, 0)", x.first(0, 0), BAD);
        due.is("18: first(0, 21)", x.first(0, 21), BAD);
        due.is("18: first(1, 1)", x.first(1, 1), BAD);
        due.is("18: first(-1, 1)", x.first(-1, 1), BAD);
        x.lamp(5, 5, 5, 5);
        due.is("18: the CANAL is never first", x.first(1, 20), NONE);
        x.set(0, 4, 900);
        due.is("17: the other way round for good", x.round(), NONE);
        x.rule(0, 1);
        due.is("18: the last out is a CANAL", x.first(1, 1), 0);
    }

    private static int roundOf(int seed, int n) {
        LampOrder x = new LampOrder();
        x.seed(seed);
        x.deal(n);
        return x.round();
    }

    /** Streets that were looked for: their order comes round behind 200 and behind 201 nights. */
    private static void roundBounds() {
        due.is("17: behind 200", roundOf(73784, 3), 200);
        due.is("17: behind 201", roundOf(78820, 3), NONE);
        LampOrder x = new LampOrder();
        x.lamp(0, 5, 5, 5);
        x.lamp(5, 5, 5, 5);
        x.set(0, 4, 900);
        due.is("17: the CANAL is ahead now", x.order(0), 1);
        x.set(0, 4, 0);
        due.is("17: as now, not as it was told", x.round(), 1);
    }

    /** Both are dark at first, then number 0 goes out at 1 + 10 * POURED, and number 1 at DAWN: the later one is first. */
    private static void firstBounds() {
        LampOrder x = new LampOrder();
        x.rule(0, 1);
        x.rule(2, 991);
        x.lamp(3, 0, 0, 5);
        x.lamp(3, 0, 0, 99);
        due.is("18: 99 is just enough", x.first(0, 2), 99);
        x.rule(2, 981);
        due.is("18: 98 is just enough", x.first(0, 2), 98);
        x.rule(2, 992);
        due.is("18: none is", x.first(0, 2), NONE);
        due.is("18: POURED stays", x.told(0, 3), 5);
    }

    private static void wrongLeastLast() {
        LampOrder x = new LampOrder();
        due.is("19: nobody, the law", x.leastLaw(1, 0), 0);
        due.is("19: nobody, WALKED", x.leastLaw(60, 1), 0);
        due.is("20: nobody", x.spared(1, 0), NONE);
        due.is("20: nobody", x.spared(60, 1), NONE);
        due.is("21: nobody", x.last(1, 0), NONE);
        due.is("21: nobody", x.last(60, 1), NONE);
        for (int round = 0; round < 2; round++) {
            for (int n : new int[] {0, 61, -5}) {
                due.is("19: leastLaw(" + n + ", 0)", x.leastLaw(n, 0), BAD);
                due.is("20: spared(" + n + ", 0)", x.spared(n, 0), BAD);
                due.is("21: last(" + n + ", 0)", x.last(n, 0), BAD);
            }
            for (int what : new int[] {-1, 2}) {
                due.is("19: leastLaw(1, " + what + ")", x.leastLaw(1, what), BAD);
                due.is("20: spared(1, " + what + ")", x.spared(1, what), BAD);
                due.is("21: last(1, " + what + ")", x.last(1, what), BAD);
            }
            x.lamp(0, 5, 5, 5);
        }
    }

    private static void lastByHand() {
        LampOrder x = new LampOrder();
        x.lamp(5, 5, 5, 5);
        x.lamp(0, 5, 5, 5);
        // Tonight the LAMP is last; from then on the CANAL: one each in two nights, so the lesser number.
        due.is("21: tonight", x.last(1, 0), 1);
        due.is("21: of two the lesser", x.last(2, 0), 0);
        due.is("21: once", x.last(2, 1), 1);
        due.is("21: twice", x.last(3, 1), 2);
    }

    private static void sparedByHand() {
        LampOrder x = new LampOrder();
        x.lamp(0, 10, 0, 0);
        due.is("20: the only one", x.spared(60, 0), 0);
        due.is("20: nothing is walked", x.spared(60, 1), 0);
        x.lamp(0, 30, 0, 0);
        x.lamp(0, 20, 0, 0);
        // All are dark, so THE ORDER stays 0, 1, 2: without 0 it is 31 + 11, without 1 it is 11 + 11.
        due.is("20: one night", x.spared(1, 0), 1);
        due.is("20: one night, WALKED", x.spared(1, 1), 22);
        due.is("20: sixty nights", x.spared(60, 1), 60 * 22);
        x.nights(2);
        due.is("20: with what was walked", x.spared(3, 1), 2 * (11 + 21 + 11) + 3 * 22);
        LampOrder alike = new LampOrder();
        alike.lamp(0, 7, 10, 10);
        alike.lamp(0, 7, 10, 10);
        due.is("20: of two the least", alike.spared(5, 0), 0);
        due.is("20: WALKED", alike.spared(5, 1), 5 * 8);
    }

    private static void oiledByHand() {
        LampOrder x = new LampOrder();
        x.lamp(3, 9, 5, 5);
        due.is("22: it is MISSING", x.oiled(0, 0, 0), LampOrder.NOTHING);
        due.is("22: what, ahead of MISSING", x.oiled(0, 0, 2), BAD);
        x.sheet(0, 0, 0);
        due.is("22: no places", x.oiled(0, 0, 0), 0);
        due.is("22: no differences", x.oiled(0, 0, 1), 0);
        x.sheet(0, 0, 1);
        x.mark(0, 0, 214);
        // GLAZED: LIT at 10, OIL times 10: with 20 at 210, with 21 at 220.
        due.is("22: oil", x.oiled(0, 0, 0), 20);
        due.is("22: differences", x.oiled(0, 0, 1), 4);
        x.mark(0, 0, 215);
        due.is("22: of two the least", x.oiled(0, 0, 0), 20);
        x.mark(0, 0, 216);
        due.is("22: the next", x.oiled(0, 0, 0), 21);
        x.mark(0, 0, 20);
        due.is("22: OIL 1", x.oiled(0, 0, 0), 1);
        x.mark(0, 0, 9999);
        x.rule(2, 999);
        x.set(0, 1, 0);
        due.is("22: no more OIL than 99", x.oiled(0, 0, 0), 99);
        due.is("22: no more OIL than 99", x.oiled(0, 0, 1), 9999 - 991);
        x.rule(2, 600);
        x.set(0, 1, 9);
        x.mark(0, 0, -32768);
        due.is("22: far below", x.oiled(0, 0, 1), 32768 + 10);
        x.sheet(1, 1, 24);
        for (int k = 0; k < 24; k++) {
            x.mark(1, k, 99999);
        }
        x.set(0, 3, 99);
        // The first night with 59 OIL (or more) lasts to DAWN, and so do all that follow.
        due.is("22: all far above", x.oiled(1, 0, 1), 24 * (99999 - 600));
        due.is("22: the least that lasts", x.oiled(1, 0, 0), 59);
        for (int wrong : new int[] {-1, 4}) {
            due.is("22: sheet " + wrong, x.oiled(wrong, 0, 0), BAD);
        }
        due.is("22: lamp -1", x.oiled(0, -1, 0), BAD);
        due.is("22: lamp 1", x.oiled(0, 1, 0), BAD);
        due.is("22: what -1", x.oiled(0, 0, -1), BAD);
    }

    private static void feeFine() {
        LampOrder x = new LampOrder();
        x.lamp(0, 4, 0, 9);
        x.lamp(0, 4, 0, 0);
        x.nights(3);
        due.is("23: WALKED", x.fee(), 18);
        due.is("24: DARKS", x.fine(0), 1);
        due.is("24: DARKS", x.fine(1), 3);
        due.is("24: fine(2)", x.fine(2), BAD);
        due.is("24: fine(-1)", x.fine(-1), BAD);
        due.is("27: fee", Tools.read(x, "fee n*100+w"), 0);
        due.is("27: fine", Tools.read(x, "fine p*100+d"), 1);
        due.is("23: by its TEXT", x.fee(), 318);
        due.is("24: by its TEXT", x.fine(0), 901);
        due.is("24: by its TEXT", x.fine(1), 3);
        due.is("24: fine(2)", x.fine(2), BAD);
    }
}
