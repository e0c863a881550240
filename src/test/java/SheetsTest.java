/** Promises 30 to 38. */
public final class SheetsTest {
    private static final int BAD = LampOrder.BAD, NO = LampOrder.NO, NONE = LampOrder.NONE;
    private static final int NOTHING = LampOrder.NOTHING, KIND = LampOrder.KIND, INDEX = LampOrder.INDEX, SIZE = LampOrder.SIZE;
    private static final int MIN = Integer.MIN_VALUE, MAX = Integer.MAX_VALUE;
    private static final Due due = new Due();

    public static void main(String[] args) {
        sheet();
        mark();
        pour();
        reads();
        copy();
        copyRefused();
        lay();
        ask();
        item();
        rest();
        due.end();
    }

    private static int place(LampOrder x, int sheet, int place) {
        x.lay(4, 2, sheet);
        return x.item(4, place);
    }

    private static void row(LampOrder x, int sheet, int sort, int... values) {
        x.sheet(sheet, sort, values.length);
        for (int i = 0; i < values.length; i++) {
            x.mark(sheet, i, values[i]);
        }
    }

    private static void checkRow(LampOrder x, String what, int sheet, int... want) {
        for (int i = 0; i < want.length; i++) {
            due.is(what + ", place " + i, place(x, sheet, i), want[i] == NONE ? KIND : want[i]);
        }
        due.is(what + ", behind it", place(x, sheet, want.length), INDEX);
    }

    private static void sheet() {
        LampOrder x = new LampOrder();
        for (int sheet : new int[] {-1, 4, MIN, MAX}) {
            due.is("30: sheet " + sheet, x.sheet(sheet, 0, -1), BAD);
            due.is("30: sheet " + sheet, x.sheet(sheet, -1, 0), BAD);
        }
        due.is("30: sort 2", x.sheet(0, 2, -1), BAD);
        due.is("30: sort -2", x.sheet(0, -2, 3), BAD);
        due.is("30: 25", x.sheet(0, 1, 25), BAD);
        due.is("30: -1", x.sheet(0, 1, -1), SIZE);
        due.is("30: MIN", x.sheet(0, 0, MIN), SIZE);
        due.is("30: still MISSING", x.mark(0, 0, 0), NOTHING);
        due.is("30: 24", x.sheet(0, 0, 24), 24);
        due.is("30: its last place", x.mark(0, 23, 7), 1);
        due.is("30: refused", x.sheet(0, 0, -1), SIZE);
        due.is("30: it stays", place(x, 0, 23), 7);
        due.is("30: anew", x.sheet(0, 0, 24), 24);
        due.is("30: all 0", place(x, 0, 23), 0);
        due.is("30: 0 places", x.sheet(0, 1, 0), 0);
        due.is("30: none of them", x.mark(0, 0, 0), INDEX);
        due.is("30: MISSING, n any", x.sheet(0, -1, 99), 0);
        due.is("30: MISSING, n below 0", x.sheet(0, -1, -99), 0);
        due.is("30: it is", x.mark(0, 0, 0), NOTHING);
    }

    private static void mark() {
        LampOrder x = new LampOrder();
        x.sheet(0, 0, 2);
        x.sheet(1, 1, 2);
        int[][] shorts = {{32767, 32767}, {-32768, -32768}, {32768, -32768}, {65536, 0}, {-32769, 32767}, {MAX, -1}, {MIN, 0}, {100000, -31072}};
        for (int[] s : shorts) {
            due.is("31: mark(0, 1, " + s[0] + ")", x.mark(0, 1, s[0]), 1);
            due.is("31: its lowest 16 bits", place(x, 0, 1), s[1]);
        }
        due.is("31: NONE in shorts", x.mark(0, 1, NONE), KIND);
        for (int v : new int[] {99999, -99999, 0}) {
            due.is("31: mark(1, 0, " + v + ")", x.mark(1, 0, v), 1);
            due.is("31: v", place(x, 1, 0), v);
        }
        for (int v : new int[] {100000, -100000, MIN, MAX, BAD}) {
            due.is("31: mark(1, 0, " + v + ")", x.mark(1, 0, v), BAD);
        }
        due.is("31: it stays", place(x, 1, 0), 0);
        due.is("31: NONE in floats", x.mark(1, 0, NONE), 1);
        due.is("31: NO NUMBER", place(x, 1, 0), KIND);
        due.is("31: INDEX ahead of KIND", x.mark(0, 2, NONE), INDEX);
        due.is("31: INDEX ahead of BAD", x.mark(1, -1, MAX), INDEX);
        due.is("31: NOTHING ahead of INDEX", x.mark(2, -1, MAX), NOTHING);
        due.is("31: BAD ahead of all", x.mark(4, -1, MAX), BAD);
        due.is("31: BAD ahead of all", x.mark(-1, 0, 0), BAD);
    }

    private static void pour() {
        LampOrder x = new LampOrder();
        for (int i = 0; i < 5; i++) {
            x.lamp(0, 0, 0, 50);
        }
        due.is("32: MISSING", x.pour(0), NOTHING);
        due.is("32: sheet 4", x.pour(4), BAD);
        due.is("32: sheet -1", x.pour(-1), BAD);
        row(x, 0, 1, -3, NONE, 99999, 50);
        due.is("32: two are otherwise", x.pour(0), 2);
        int[] want = {0, 50, 99, 50, 50};
        for (int i = 0; i < 5; i++) {
            due.is("32: POURED of " + i, x.told(i, 3), want[i]);
        }
        due.is("32: none is", x.pour(0), 0);
        row(x, 1, 0, 1, 2, 3, 4, 5, 6, 7);
        due.is("32: all are", x.pour(1), 5);
        x.sheet(1, 0, 0);
        due.is("32: no places", x.pour(1), 0);
    }

    private static void reads() {
        LampOrder x = new LampOrder();
        due.is("33: MISSING", x.reads(0), NOTHING);
        due.is("33: sheet 4", x.reads(4), BAD);
        due.is("33: sheet -1", x.reads(-1), BAD);
        x.sheet(0, 0, 0);
        due.is("33: no places", x.reads(0), NONE);
        row(x, 1, 1, NONE, NONE, 0);
        due.is("33: nobody stands there", x.reads(1), 2);
        for (int i = 0; i < 3; i++) {
            x.lamp(0, 9 - i, 0, 0);
        }
        x.rule(0, 2);
        row(x, 0, 0, 2, 1, 0);
        due.is("33: all right", x.reads(0), NONE);
        row(x, 0, 0, 2, 1);
        due.is("33: fewer", x.reads(0), NONE);
        row(x, 0, 0, 2, 1, 0, 0, 0);
        due.is("33: beyond", x.reads(0), 3);
        row(x, 1, 1, 2, NONE, 0, NONE);
        due.is("33: numbers alone", x.reads(1), NONE);
        row(x, 1, 1, 2, NONE, 1, NONE);
        due.is("33: not that one", x.reads(1), 2);
        x.rule(0, 0);
        due.is("33: by the LAW", x.reads(0), 0);
    }

    private static void copy() {
        LampOrder x = new LampOrder();
        row(x, 0, 0, 1, 2, 3, 4, 5);
        row(x, 1, 0, 11, 12, 13);
        due.is("34: copy(0, 3, 1, 1, 2)", x.copy(0, 3, 1, 1, 2), 2);
        checkRow(x, "34: to another", 1, 11, 4, 5);
        checkRow(x, "34: from", 0, 1, 2, 3, 4, 5);
        due.is("34: forward", x.copy(0, 0, 0, 1, 4), 4);
        checkRow(x, "34: forward", 0, 1, 1, 2, 3, 4);
        due.is("34: backward", x.copy(0, 1, 0, 0, 4), 4);
        checkRow(x, "34: backward", 0, 1, 2, 3, 4, 4);
        due.is("34: none", x.copy(0, 5, 1, 3, 0), 0);
        due.is("34: all", x.copy(1, 0, 0, 2, 3), 3);
        checkRow(x, "34: all", 0, 1, 2, 11, 4, 5);
        row(x, 2, 1, NONE, 70000);
        row(x, 3, 1, 1, 2);
        due.is("34: floats", x.copy(2, 0, 3, 0, 2), 2);
        checkRow(x, "34: floats", 3, NONE, 70000);
    }

    private static void copyRefused() {
        LampOrder x = new LampOrder();
        row(x, 0, 0, 1, 2, 3);
        row(x, 1, 1, 1, 2, 3);
        int[][] wrong = {
            {-1, 0, 0, 0, 1, BAD}, {4, 0, 0, 0, 1, BAD}, {0, 0, -1, 0, 1, BAD}, {0, 0, 4, 0, 1, BAD}, {2, 0, 4, 0, 1, BAD},
            {2, 0, 0, 0, 1, NOTHING}, {0, 0, 2, 0, 1, NOTHING}, {2, -1, 2, 99, -7, NOTHING},
            {0, 0, 1, 0, 1, KIND}, {1, 0, 0, 0, 0, KIND}, {0, -1, 1, 99, -7, KIND},
            {0, -1, 0, 0, 1, INDEX}, {0, 0, 0, -1, 1, INDEX}, {0, 3, 0, 0, 1, INDEX}, {0, 0, 0, 3, 1, INDEX}, {0, 0, 0, 0, 4, INDEX},
            {0, 1, 0, 0, 3, INDEX}, {0, 0, 0, 1, 3, INDEX}, {0, 4, 0, 0, 0, INDEX}, {0, 0, 0, 4, 0, INDEX}, {0, 1, 0, 1, -1, INDEX},
            {0, MAX, 0, 0, 1, INDEX}, {0, 0, 0, MAX, MAX, INDEX}, {0, MAX, 0, 0, MAX, INDEX}, {0, 0, 0, 0, MIN, INDEX}, {0, MIN, 0, MIN, MIN, INDEX}};
        for (int[] w : wrong) {
            due.is("34: copy(" + w[0] + ", " + w[1] + ", " + w[2] + ", " + w[3] + ", " + w[4] + ")", x.copy(w[0], w[1], w[2], w[3], w[4]), w[5]);
        }
        checkRow(x, "34: nothing changed", 0, 1, 2, 3);
    }

    private static void lay() {
        LampOrder x = new LampOrder();
        due.is("35: no LAMP", x.lay(0, 1, 0), BAD);
        x.lamp(2, 10, 0, 0);
        x.sheet(1, 0, 2);
        int[][] laid = {{0, 0, 0}, {1, 0, 0}, {2, 1, 1}, {3, -9, 2}, {1, 0, 3}, {0, -5, 1}, {3, MIN, 0}, {0, MAX, 3}, {0, 0, 0}};
        for (int[] l : laid) {
            due.is("35: lay(4, " + l[0] + ", " + l[1] + ")", x.lay(4, l[0], l[1]), l[2]);
        }
        x.lay(0, 3, 7);
        int[][] wrong = {{-1, 0, 0, BAD}, {5, 0, 0, BAD}, {0, -1, 0, BAD}, {0, 4, 0, BAD}, {0, 1, 1, BAD}, {0, 1, -1, BAD}, {0, 2, 4, BAD},
            {0, 2, -1, BAD}, {5, 2, 0, BAD}, {0, 2, 0, NOTHING}};
        for (int[] w : wrong) {
            due.is("35: lay(" + w[0] + ", " + w[1] + ", " + w[2] + ")", x.lay(w[0], w[1], w[2]), w[3]);
        }
        due.is("35: it holds what it held", x.rest(0, 100), 7);
    }

    private static void ask() {
        LampOrder x = new LampOrder();
        String[] are = {"0", "01", "02", "013", "024", "05"};
        int[] worth = {20, 26, 79, 52, 75, 3};
        for (int kind = 0; kind < 6; kind++) {
            x.lamp(kind, 20, 0, 0);
            x.lay(0, 1, kind);
            for (int as = 0; as < 6; as++) {
                due.is("36: KIND " + kind + " as " + as, x.ask(0, as), are[kind].indexOf('0' + as) >= 0 ? worth[kind] : KIND);
            }
        }
        x.lay(0, 1, 3);
        x.keep();
        x.set(3, 1, 0);
        x.turns(3, 5);
        due.is("36: as it was", x.ask(0, 3), 52);
        x.back();
        due.is("36: as it was", x.ask(0, 1), 52);
        due.is("36: nothing", x.ask(1, 0), NOTHING);
        x.lay(1, 3, 5);
        due.is("36: a number", x.ask(1, 0), KIND);
        x.sheet(0, 0, 1);
        x.lay(1, 2, 0);
        due.is("36: a SHEET", x.ask(1, 0), KIND);
        due.is("36: ask(-1, 0)", x.ask(-1, 0), BAD);
        due.is("36: ask(5, 0)", x.ask(5, 0), BAD);
        due.is("36: BAD ahead of NOTHING", x.ask(2, 6), BAD);
        due.is("36: ask(0, -1)", x.ask(0, -1), BAD);
    }

    private static void item() {
        LampOrder x = new LampOrder();
        x.lamp(0, 0, 0, 0);
        row(x, 0, 1, 5, NONE, -99999);
        x.lay(0, 2, 0);
        row(x, 0, 0, 9);
        due.is("37: as it was", x.item(0, 0), 5);
        due.is("37: NO NUMBER", x.item(0, 1), KIND);
        due.is("37: the last", x.item(0, 2), -99999);
        due.is("37: behind it", x.item(0, 3), INDEX);
        due.is("37: ahead of it", x.item(0, -1), INDEX);
        due.is("37: nothing", x.item(1, -1), NOTHING);
        x.lay(1, 1, 0);
        due.is("37: a LAMP", x.item(1, -1), KIND);
        x.lay(1, 3, 0);
        due.is("37: a number", x.item(1, 0), KIND);
        due.is("37: item(5, 0)", x.item(5, 0), BAD);
        due.is("37: item(-1, 0)", x.item(-1, 0), BAD);
        x.sheet(0, -1, 0);
        due.is("37: a row of its own", x.item(0, 0), 5);
    }

    private static void rest() {
        LampOrder x = new LampOrder();
        x.lamp(0, 0, 0, 0);
        due.is("38: nothing", x.rest(0, 0), NOTHING);
        x.lay(0, 3, 17);
        due.is("38: 17 by 5", x.rest(0, 5), 2);
        due.is("38: 17 by -5", x.rest(0, -5), 2);
        due.is("38: by 0", x.rest(0, 0), NO);
        x.lay(0, 3, -17);
        due.is("38: -17 by 5", x.rest(0, 5), -2);
        x.lay(0, 3, MIN);
        due.is("38: MIN by -1", x.rest(0, -1), 0);
        due.is("38: MIN by MIN", x.rest(0, MIN), 0);
        x.lay(0, 1, 0);
        due.is("38: a LAMP", x.rest(0, 0), KIND);
        x.sheet(0, 0, 1);
        x.lay(0, 2, 0);
        due.is("38: a SHEET", x.rest(0, 1), KIND);
        due.is("38: rest(5, 0)", x.rest(5, 0), BAD);
        due.is("38: rest(-1, 0)", x.rest(-1, 0), BAD);
    }
}
