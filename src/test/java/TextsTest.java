/** Promises 25 to 29, and what TEXTS give. */
public final class TextsTest {
    private static final int BAD = LampOrder.BAD, FULL = LampOrder.FULL, NONE = LampOrder.NONE;
    private static final Due due = new Due();

    public static void main(String[] args) {
        feedTrim();
        faults();
        nesting();
        values();
        wraps();
        burn();
        numbersAndKeys();
        fourteen();
        due.end();
    }

    private static void feedTrim() {
        LampOrder x = new LampOrder();
        due.is("26: trim(0)", x.trim(0), 0);
        due.is("26: trim(1) of nothing", x.trim(1), BAD);
        for (int i = 1; i <= 8; i++) {
            due.is("25: feed", x.feed(-1, 0, 1), 12 * i);
        }
        due.is("25: a ninth", x.feed(0, 0, 0), FULL);
        due.is("25: it keeps its bytes", x.count(7), 96);
        due.is("26: trim(97)", x.trim(97), BAD);
        due.is("26: trim(-1)", x.trim(-1), BAD);
        due.is("26: trim(96)", x.trim(96), 96);
        due.is("26: trim(85)", x.trim(85), 85);
        due.is("25: one too many", x.feed(0, 0, 0), FULL);
        due.is("26: trim(84)", x.trim(84), 84);
        due.is("26: no way back", x.trim(85), BAD);
        due.is("25: just so", x.feed(0, 0, 0), 96);
        due.is("27: no TEXT", x.text(), -100);
        due.is("27: it is used up", x.count(7), 0);
        // "fee " | " 7 8" | "9": the highest byte comes first.
        x.feed(0x66656520, 0x20372b38, 0x39202020);
        due.is("27: fee  7+89", x.text(), 0);
        due.is("25: bytes in their order", x.fee(), 96);
        due.is("27: it is used up", x.count(7), 0);
    }

    private static void fault(String text, int place) {
        LampOrder x = new LampOrder();
        due.is("27: '" + text + "'", Tools.read(x, text), -100 - place);
        due.is("27: none came of '" + text + "'", x.count(5), 0);
        due.is("27: the tape behind '" + text + "'", x.count(7), 0);
    }

    private static void faults() {
        fault("", 0);
        fault("   ", 3);
        fault("burn", 4);
        fault("burn  ", 6);
        fault("  burns 1", 2);
        fault("burna 1", 0);
        fault("burnz 1", 0);
        fault("curn 1", 0);
        fault("bur 1", 0);
        fault("Burn 1", 0);
        fault("7", 0);
        fault("(burn 1)", 0);
        fault("burn1", 4);
        fault("burno", 0);
        fault("burn 12345", 5);
        fault("burn 00001", 5);
        fault("burn 1 2", 7);
        fault("burn 1o", 6);
        fault("burn o1", 6);
        fault("burn oo", 5);
        fault("burn o o", 7);
        fault("burn n", 5);
        fault("burn p", 5);
        fault("burn d", 5);
        fault("fee o", 4);
        fault("fee s", 4);
        fault("fine w", 5);
        fault("fine n", 5);
        fault("fee fee", 4);
        fault("fee 1+", 6);
        fault("fee 1+  ", 8);
        fault("fee +1", 4);
        fault("fee -1", 4);
        fault("fee 1+-1", 6);
        fault("fee 1<2<3", 7);
        fault("fee 1=2>3", 7);
        fault("fee 1<=3", 6);
        fault("fee 1&&3", 6);
        fault("fee 1!", 5);
        fault("fee 1!=2", 5);
        fault("fee !", 5);
        fault("fee ()", 5);
        fault("fee (1", 6);
        fault("fee (1 ", 7);
        fault("fee 1)", 5);
        fault("fee (1))", 7);
        fault("fee (1 2)", 7);
        fault("fee 1(2)", 5);
        fault("fee 1,2", 5);
        fault("fee 1\t+2", 5);
        fault("fee 1\u0000", 5);
        fault("fee \u00e9", 4);
        fault("fee N", 4);
        fault("fee na", 4);
        fault("fee nz", 4);
        fault("fee `", 4);
        fault("fee {", 4);
        fault("fee :", 4);
        fault("fee n/", 6);
        fault("fee 1 ?", 6);
    }

    private static void nesting() {
        LampOrder x = new LampOrder();
        due.is("27: eight (", Tools.read(x, "fee ((((((((7))))))))"), 0);
        due.is("27: eight !", Tools.read(x, "fee !!!!!!!!7"), 1);
        due.is("23: eight !", x.fee(), 1);
        due.is("27: eight of both", Tools.read(x, "fee !(!(!(!(!(!(!(!(7))))))))"), 2);
        due.is("23: eight of both", x.fee(), 1);
        due.is("27: one behind the other", Tools.read(x, "fee (1)+(1)+(1)+(1)+(1)+(1)+(1)+(1)+(1)+(1)"), 3);
        due.is("23: ten", x.fee(), 10);
        due.is("27: ! behind one another", Tools.read(x, "fee !0+!0+!0+!0+!0+!0+!0+!0+!0+!0"), 4);
        due.is("23: ten", x.fee(), 10);
        due.is("27: ! that are closed by their (", Tools.read(x, "fee !!!!(!!!!0)+!!!!!!!!0"), 5);
        due.is("23: none of both", x.fee(), 0);
        due.is("27: nine (", Tools.read(x, "fee (((((((((7))))))))"), -100 - 12);
        due.is("27: nine !", Tools.read(x, "fee !!!!!!!!!7"), -100 - 12);
        due.is("27: nine ! with (", Tools.read(x, "fee !!!!(!!!!(!7))"), -100 - 14);
        due.is("27: the ninth ! behind a closed (", Tools.read(x, "fee !!!!(!!!!(0)+!!!!!7)"), -100 - 21);
        due.is("27: ninety-six bytes", Tools.read(x, "fee " + "1+".repeat(45) + "1 "), 6);
        due.is("23: forty-six", x.fee(), 46);
        due.is("28: forty-six", x.textTold(6, 1), 46);
    }

    private static void value(String e, int want) {
        LampOrder x = new LampOrder();
        x.lamp(0, 1, 0, 0);
        x.nights(3);
        // n is 3, w is 6.
        due.is("27: fee " + e, Tools.read(x, "fee " + e), 0);
        due.is("23: fee " + e, x.fee(), want);
    }

    private static void values() {
        value("9999", 9999);
        value("0007", 7);
        value("n", 3);
        value("w", 6);
        value("10-3-2", 5);
        value("100/7/2", 7);
        value("2+3*4", 14);
        value("(2+3)*4", 20);
        value("20-7/2*3", 11);
        value("1-8/3", -1);
        value("(1-8)/3", -2);
        value("7/(2-5)", -2);
        value("7/0", 0);
        value("n/(w-6)", 0);
        value("5/0+1", 1);
        value("1+2<4", 1);
        value("1+2<3", 0);
        value("3=1+2", 1);
        value("3>2", 1);
        value("2>2", 0);
        value("2<3&5", 1);
        value("5&6", 1);
        value("5&0", 0);
        value("5|0", 1);
        value("0|0", 0);
        value("1|0&0", 1);
        value("(1|0)&0", 0);
        value("1=1", 1);
        value("(1=1)=0", 0);
        value("(3>2)+(2>1)", 2);
        value("!0", 1);
        value("!5", 0);
        value("!!5", 1);
        value("!0+5", 6);
        value("!(0+5)", 0);
        value("!n*4", 0);
        value("0-1&1", 1);
        value("(0-1)", -1);
        value("0<1&1<0|7", 1);
        value("  n  *  ( w + 1 )  ", 21);
        value("n*w-w/n", 16);
    }

    private static void wraps() {
        value("9999*9999*9999", 9999 * 9999 * 9999);
        value("0-9999*9999*21-9999*4759-7421", -9999 * 9999 * 21 - 9999 * 4759 - 7421);
        // 65536 * 32768 is the least int; by -1 it stays.
        value("8192*8192*32", Integer.MIN_VALUE);
        value("8192*8192*32/(0-1)", Integer.MIN_VALUE);
        value("8192*8192*32-1", Integer.MAX_VALUE);
        value("8192*8192*32<0", 1);
        value("8192*8192*64", 0);
    }

    private static void burn() {
        LampOrder x = new LampOrder();
        for (int kind = 0; kind < 6; kind++) {
            x.lamp(kind, 20 + kind, 41, 5);
        }
        x.rule(1, 3);
        Tools.read(x, "burn o*7+w*2-s");
        // As LAMP 287 + 6 less PLACE.
        int[] burns = {273, (410 + 272) / 2, 271 - 20, 410, (269 - 20) / 2, 9999};
        for (int kind = 0; kind < 6; kind++) {
            due.is("27: burn for KIND " + kind, x.told(kind, 7), burns[kind]);
        }
        Tools.read(x, "burn 9999+1");
        int[] held = {9999, (410 + 9999) / 2, 9979, 410, 9979 / 2, 9999};
        for (int kind = 0; kind < 6; kind++) {
            due.is("27: held burn for KIND " + kind, x.told(kind, 7), held[kind]);
        }
        Tools.read(x, "burn 0-1");
        int[] least = {0, 205, 0, 410, 0, 9999};
        for (int kind = 0; kind < 6; kind++) {
            due.is("27: burn below 0 for KIND " + kind, x.told(kind, 7), least[kind]);
        }
        Tools.read(x, "burn 100+w");
        x.seed(1);
        x.nights(1);
        // WIND is 4 then: PLACE 20, LIT at 21.
        due.is("27: burn in a night", x.told(0, 4), 21 + 104);
        due.is("27: and what it drinks", x.told(0, 2), 41 - 10 + 5);
        x.set(0, 2, 0);
        x.nights(1);
        due.is("27: it burns without OIL by its TEXT", x.told(0, 4) - x.told(0, 5), 102);
        due.is("27: DARKS all the same", x.told(0, 6), 1);
        due.is("27: nothing is drunk, 5 are poured", x.told(0, 2), 5);
    }

    private static void numbersAndKeys() {
        LampOrder x = new LampOrder();
        due.is("27: fine", Tools.read(x, " fine p"), 0);
        due.is("27: burn", Tools.read(x, "burn(o+w)*s/10-!12"), 1);
        due.is("27: fee", Tools.read(x, "fee!n"), 2);
        int[] keys = {2, 0, 1};
        int[] many = {1, 5, 1};
        for (int text = 0; text < 3; text++) {
            due.is("28: textTold(" + text + ", 0)", x.textTold(text, 0), keys[text]);
            due.is("28: textTold(" + text + ", 1)", x.textTold(text, 1), many[text]);
        }
        due.is("28: textTold(3, 0)", x.textTold(3, 0), BAD);
        due.is("28: textTold(-1, 0)", x.textTold(-1, 0), BAD);
        due.is("28: textTold(0, -1)", x.textTold(0, -1), BAD);
        due.is("28: textTold(0, 2)", x.textTold(0, 2), BAD);
        int[] whys = {1, 2, 0};
        for (int key = 0; key < 3; key++) {
            due.is("29: why(" + key + ")", x.why(key), whys[key]);
        }
        due.is("27: fee again", Tools.read(x, "fee 44"), 3);
        due.is("29: the last counts", x.why(1), 3);
        due.is("23: the last counts", x.fee(), 44);
        Tools.read(x, "fee 45 45");
        due.is("29: what has a FAULT does not", x.why(1), 3);
        due.is("29: why(-1)", x.why(-1), BAD);
        due.is("29: why(3)", x.why(3), BAD);
    }

    private static void fourteen() {
        LampOrder x = new LampOrder();
        for (int i = 0; i < 14; i++) {
            due.is("27: TEXT " + i, Tools.read(x, "fee " + i), i);
        }
        due.is("27: a fifteenth", Tools.read(x, "fee 99"), FULL);
        due.is("27: the tape is used up", x.count(7), 0);
        due.is("27: a FAULT ahead of FULL", Tools.read(x, "fee 99 9"), -107);
        due.is("27: fourteen", x.count(5), 14);
        due.is("29: the fourteenth", x.why(1), 13);
        due.is("29: none", x.why(0), NONE);
        due.is("23: the fourteenth", x.fee(), 13);
    }
}
