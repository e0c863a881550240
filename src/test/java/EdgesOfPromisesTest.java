/**
 * Promises 1 to 43, each by runs of its own: the edges of what a call takes, the calls that are refused, and which of several
 * refusals is told. Most begin with the scene of Script, so that a refused call has something it could change: five LAMPS,
 * three TEXTS, SHEETS 0 (shorts), 1 (floats), 2 (no places), SLOTS 0 (LAMP 3), 1 and 3 (SHEETS), 2 (a number), 8 bytes, 4 numbers.
 */
public final class EdgesOfPromisesTest {
    private static final Due due = new Due();

    public static void main(String[] args) {
        lamps();
        lampsChange();
        nights();
        thought();
        thoughtOfLamps();
        tape();
        texts();
        sheet();
        mark();
        pourAndReads();
        copy();
        lay();
        asked();
        rows();
        images();
        due.end();
    }

    private static void edge(String sentence, String... calls) {
        Script.run(due, sentence, calls);
    }

    private static void lamps() {
        edge("1: As told; no LAMPS",
            "count(0) = 0; count(1) = 0; count(2) = 0; count(3) = 0; count(4) = 600; count(5) = 0; count(6) = 0; count(7) = 0",
            "count(8) = 1; street(0) = 0; street(1) = 0; street(2) = 0; street(3) = 0; told(0, 0) = BAD; order(0) = BAD; back() = NO");
        edge("2: BAD",
            "scene; lamp(-1, 0, 0, 0) = BAD; lamp(6, 0, 0, 0) = BAD; lamp(MIN, 0, 0, 0) = BAD; lamp(MAX, 0, 0, 0) = BAD",
            "lamp(0, MIN, 0, 0) = BAD; lamp(0, MAX, 0, 0) = BAD; lamp(0, -1, 0, 0) = BAD; lamp(0, 100, 0, 0) = BAD",
            "lamp(0, 0, -1, 0) = BAD; lamp(0, 0, 1000, 0) = BAD; lamp(0, 0, MIN, 0) = BAD; lamp(0, 0, MAX, 0) = BAD",
            "lamp(0, 0, 0, -1) = BAD; lamp(0, 0, 0, 100) = BAD; lamp(0, 0, 0, MIN) = BAD; lamp(0, 0, 0, MAX) = BAD",
            "lamp(5, 99, 999, 99) = 5; lamp(0, 0, 0, 0) = 6");
        edge("2: FULL, behind BAD",
            "scene; deal(5) = 5; lamp(0, 0, 0, 0) = FULL; lamp(6, 0, 0, 0) = BAD; lamp(0, 100, 0, 0) = BAD; lamp(0, 0, 1000, 0) = BAD",
            "lamp(0, 0, 0, 100) = BAD");
        edge("3: BAD",
            "scene; told(-1, 0) = BAD; told(5, 0) = BAD; told(MIN, 0) = BAD; told(MAX, 0) = BAD; told(0, -1) = BAD; told(0, 9) = BAD",
            "told(0, MIN) = BAD; told(0, MAX) = BAD; told(4, 0) = 1; told(4, 8) = 51; told(0, 0) = 0; told(0, 8) = 10");
        edge("4: BAD",
            "scene; drinks(-1, 0) = BAD; drinks(5, 0) = BAD; drinks(MIN, 5) = BAD; drinks(MAX, 5) = BAD; drinks(0, -1) = BAD",
            "drinks(0, 1000) = BAD; drinks(0, MIN) = BAD; drinks(0, MAX) = BAD; drinks(4, 0) = 0; drinks(2, 999) = 0");
        edge("5: BAD: lamp, kind; KIND",
            "scene; as(-1, 0) = BAD; as(5, 0) = BAD; as(MIN, 0) = BAD; as(MAX, 0) = BAD; as(0, -1) = BAD; as(0, 6) = BAD",
            "as(0, MIN) = BAD; as(0, MAX) = BAD; as(0, 1) = KIND; as(1, 1) = KIND; as(2, 2) = KIND; as(3, 1) = KIND; as(4, 3) = KIND",
            "as(5, 1) = BAD; as(4, 1) = 45; as(4, 0) = 45; as(2, 1) = 30; as(3, 2) = 20");
    }

    private static void lampsChange() {
        edge("6: BAD",
            "scene; turns(-1, 0) = BAD; turns(5, 0) = BAD; turns(MIN, 0) = BAD; turns(MAX, 0) = BAD; turns(0, -1) = BAD",
            "turns(0, 6) = BAD; turns(0, MIN) = BAD; turns(0, MAX) = BAD; turns(4, 5) = 1; turns(4, 0) = 5; turns(4, 0) = 0",
            "told(4, 0) = 0");
        edge("6: of another KIND, and nothing else",
            "scene; told(3, 2) = 36; turns(3, 5) = 4; told(3, 2) = 36; told(3, 1) = 20; told(3, 3) = 15; told(3, 6) = 0",
            "told(3, 7) = 9999; told(3, 8) = 3");
        edge("7: BAD: what",
            "scene; set(0, 0, 0) = BAD; set(0, 5, 0) = BAD; set(0, -1, 0) = BAD; set(0, MIN, 0) = BAD; set(0, MAX, 0) = BAD",
            "set(0, 6, 0) = BAD");
        edge("7: BAD: lamp", "scene; set(-1, 1, 0) = BAD; set(5, 1, 0) = BAD; set(MIN, 1, 0) = BAD; set(MAX, 1, 0) = BAD");
        edge("7: BAD: v",
            "scene; set(0, 1, -1) = BAD; set(0, 1, 100) = BAD; set(0, 1, MIN) = BAD; set(0, 1, MAX) = BAD; set(0, 2, -1) = BAD",
            "set(0, 2, 1000) = BAD; set(0, 2, MIN) = BAD; set(0, 2, MAX) = BAD; set(0, 3, -1) = BAD; set(0, 3, 100) = BAD",
            "set(0, 3, MIN) = BAD; set(0, 3, MAX) = BAD; set(0, 4, -1) = BAD; set(0, 4, 10000) = BAD; set(0, 4, MIN) = BAD",
            "set(0, 4, MAX) = BAD");
        edge("7: what it was",
            "lamp(0, 1, 2, 3); lamp(0, 4, 5, 6); set(1, 1, 99) = 4; set(1, 2, 999) = 5; set(1, 3, 99) = 6; set(1, 4, 9999) = 1",
            "set(1, 1, 0) = 99; set(1, 2, 0) = 999; set(1, 3, 0) = 99; set(1, 4, 0) = 9999; told(0, 1) = 1; told(0, 2) = 2",
            "told(0, 3) = 3; told(0, 4) = 0; told(1, 1) = 0; told(1, 2) = 0; told(1, 3) = 0; told(1, 4) = 0; told(1, 5) = 0",
            "told(1, 6) = 0");
        edge("8: BAD",
            "scene; deal(0) = BAD; deal(11) = BAD; deal(-1) = BAD; deal(MIN) = BAD; deal(MAX) = BAD; deal(5) = 5; deal(0) = BAD",
            "deal(11) = BAD");
        edge("8: n (1 .. 10)", "deal(10) = 10; count(0) = 10");
        edge("8: n, one", "deal(1) = 1; count(0) = 1; count(8) = -999580867");
        edge("8: as many as there is room for (no draws for others)",
            "9 x lamp(0, 0, 0, 0); deal(10) = 1; count(0) = 10; count(8) = -999580867; deal(1) = 0; deal(10) = 0; count(8) = -999580867",
            "count(0) = 10");
        edge("9: z becomes v: what it was", "seed(MIN) = 1; seed(MAX) = MIN; seed(0) = MAX; seed(-1) = 0; seed(5) = -1; count(8) = 5");
    }

    private static void nights() {
        edge("10: BAD",
            "scene; rule(-1, 0) = BAD; rule(3, 60) = BAD; rule(MIN, 1) = BAD; rule(MAX, 1) = BAD; rule(0, -1) = BAD; rule(0, 3) = BAD",
            "rule(0, MIN) = BAD; rule(0, MAX) = BAD; rule(1, -1) = BAD; rule(1, 10) = BAD; rule(1, MIN) = BAD; rule(1, MAX) = BAD",
            "rule(2, 59) = BAD; rule(2, 1000) = BAD; rule(2, 0) = BAD; rule(2, MIN) = BAD; rule(2, MAX) = BAD; rule(0, 60) = BAD",
            "rule(1, 60) = BAD; rule(0, 2) = 1; rule(1, 9) = 7; rule(2, 60) = 500");
        edge("11: BAD: also if there is none",
            "order(0) = BAD; order(-1) = BAD; order(MIN) = BAD; order(MAX) = BAD; lamp(0, 0, 0, 0); order(0) = 0; order(1) = BAD",
            "order(-1) = BAD; 9 x lamp(0, 0, 0, 0); order(9) = 9; order(10) = BAD; keep(); lamp(0, 0, 0, 0) = FULL");
        edge("11: BAD", "scene; order(-1) = BAD; order(5) = BAD; order(MIN) = BAD; order(MAX) = BAD; order(0) = 1; order(4) = 4");
        edge("11: none, where there was one before THE IMAGE came back",
            "lamp(0, 0, 0, 0); keep(); lamp(0, 0, 0, 0); order(1) = 1; back(); order(1) = BAD; order(0) = 0");
        edge("12: BAD", "scene; nights(0) = BAD; nights(101) = BAD; nights(-1) = BAD; nights(MIN) = BAD; nights(MAX) = BAD");
        edge("12: n (1 .. 100)", "lamp(0, 4, 0, 0); nights(1) = 5; count(1) = 1; nights(100) = 500; count(1) = 101; nights(101) = BAD");
        edge("12: no more than up to 9999",
            "lamp(0, 4, 0, 0); 99 x nights(100) = 500; nights(100) = 495; count(1) = 9999; seed(77); nights(100) = 0; count(8) = 77",
            "count(1) = 9999; street(0) = 49995; nights(0) = BAD; nights(101) = BAD");
        edge("12: without LAMPS", "nights(100) = 0; count(1) = 100; street(0) = 0");
        edge("13: WAY", "way() = 0; scene; way() = 50");
        edge("14: BAD", "scene; dark(-1) = BAD; dark(10000) = BAD; dark(MIN) = BAD; dark(MAX) = BAD; dark(9999) = 31; dark(0) = 31");
        edge("15: BAD", "scene; street(-1) = BAD; street(4) = BAD; street(MIN) = BAD; street(MAX) = BAD; street(3) = 47");
        edge("15: DARKS of all",
            "2 x lamp(0, 0, 0, 0); lamp(5, 0, 0, 0); lamp(0, 0, 1, 0); nights(2); street(1) = 4; lamp(0, 0, 0, 0); nights(1)",
            "street(1) = 7");
        edge("15: without LAMPS", "street(0) = 0; street(1) = 0; street(2) = 0; street(3) = 0");
        edge("15: the most", "10 x lamp(5, 99, 999, 99); street(2) = 9990; street(3) = 990; nights(1) = 109; street(2) = 9990");
    }

    private static void thought() {
        edge("16: BAD",
            "scene; behind(-1, 0) = BAD; behind(101, 0) = BAD; behind(MIN, 0) = BAD; behind(MAX, 0) = BAD; behind(0, -1) = BAD",
            "behind(0, 4) = BAD; behind(0, MIN) = BAD; behind(0, MAX) = BAD; behind(101, 4) = BAD");
        edge("16: nothing changes",
            "scene; behind(0, 0) = 260; behind(0, 3) = 1; behind(1, 0) = 310; behind(100, 1); behind(100, 2); behind(0, 0) = 260",
            "street(0) = 260");
        edge("16: NONE",
            "behind(0, 3) = NONE; behind(100, 3) = NONE; behind(100, 0) = 0; behind(100, 1) = 0; behind(100, 2) = 0",
            "behind(101, 3) = BAD; behind(-1, 3) = BAD; lamp(0, 0, 0, 0); behind(100, 3) = 0");
        edge("17: NONE: not by then", "lamp(0, 5, 5, 5); lamp(5, 5, 5, 5); set(0, 4, 900); round() = NONE; set(0, 4, 0); round() = 1");
        edge("17: without LAMPS, and with one", "round() = 1; lamp(0, 0, 0, 0); round() = 1");
        edge("19: BAD",
            "scene; leastLaw(0, 0) = BAD; leastLaw(61, 0) = BAD; leastLaw(-1, 0) = BAD; leastLaw(MIN, 0) = BAD; leastLaw(MAX, 0) = BAD",
            "leastLaw(1, -1) = BAD; leastLaw(1, 2) = BAD; leastLaw(1, MIN) = BAD; leastLaw(1, MAX) = BAD");
        edge("19: n (1 .. 60)",
            "lamp(0, 7, 0, 0); leastLaw(1, 1) = 8; leastLaw(60, 1) = 480; leastLaw(61, 1) = BAD; leastLaw(0, 1) = BAD",
            "leastLaw(60, 0) = 0");
        edge("19: without LAMPS", "leastLaw(1, 0) = 0; leastLaw(60, 1) = 0; leastLaw(0, 0) = BAD");
        edge("20: BAD",
            "scene; spared(0, 0) = BAD; spared(61, 0) = BAD; spared(-1, 0) = BAD; spared(MIN, 0) = BAD; spared(MAX, 0) = BAD",
            "spared(1, -1) = BAD; spared(1, 2) = BAD; spared(1, MIN) = BAD; spared(1, MAX) = BAD");
        edge("20: n (1 .. 60)",
            "lamp(0, 7, 0, 0); lamp(0, 9, 0, 0); spared(1, 1) = 8; spared(60, 1) = 480; spared(61, 1) = BAD; spared(0, 1) = BAD",
            "spared(60, 0) = 1");
        edge("20: NONE: there are no LAMPS, behind BAD",
            "spared(1, 0) = NONE; spared(60, 1) = NONE; spared(0, 0) = BAD; spared(61, 0) = BAD; spared(1, 2) = BAD; spared(1, -1) = BAD");
        edge("21: BAD",
            "scene; last(0, 0) = BAD; last(61, 0) = BAD; last(-1, 0) = BAD; last(MIN, 0) = BAD; last(MAX, 0) = BAD; last(1, -1) = BAD",
            "last(1, 2) = BAD; last(1, MIN) = BAD; last(1, MAX) = BAD");
        edge("21: n (1 .. 60)",
            "lamp(0, 7, 0, 0); lamp(5, 7, 0, 0); last(1, 1) = 1; last(60, 1) = 60; last(60, 0) = 1; last(61, 1) = BAD; last(0, 1) = BAD");
        edge("21: NONE: there are no LAMPS, behind BAD",
            "last(1, 0) = NONE; last(60, 1) = NONE; last(0, 0) = BAD; last(61, 0) = BAD; last(1, 2) = BAD; last(1, -1) = BAD");
    }

    private static void thoughtOfLamps() {
        edge("18: BAD",
            "scene; first(-1, 1) = BAD; first(5, 1) = BAD; first(MIN, 1) = BAD; first(MAX, 1) = BAD; first(0, 0) = BAD",
            "first(0, 21) = BAD; first(0, -1) = BAD; first(0, MIN) = BAD; first(0, MAX) = BAD");
        edge("18: n (1 .. 20)", "lamp(0, 7, 0, 0); first(0, 1) = 0; first(0, 20) = 0; first(0, 21) = BAD; first(0, 0) = BAD");
        edge("18: NONE: none, behind BAD",
            "lamp(0, 7, 0, 0); lamp(5, 7, 0, 0); first(1, 1) = NONE; first(1, 20) = NONE; first(1, 21) = BAD; first(1, 0) = BAD",
            "first(2, 1) = BAD");
        // Both are dark the first night, number 0 a minute later; the second night, with WIND 2, it goes out at 1 + 9 * POURED, the other at 29.
        edge("18: nothing changes",
            "lamp(0, 0, 0, 7); lamp(0, 0, 0, 3); rule(0, 1); first(0, 1) = 0; first(0, 2) = 4; told(0, 3) = 7; told(0, 2) = 0",
            "count(1) = 0; count(3) = 0");
        edge("22: BAD: sheet", "scene; oiled(-1, 0, 0) = BAD; oiled(4, 0, 0) = BAD; oiled(MIN, 0, 0) = BAD; oiled(MAX, 0, 0) = BAD");
        edge("22: BAD: lamp", "scene; oiled(0, -1, 0) = BAD; oiled(0, 5, 0) = BAD; oiled(0, MIN, 0) = BAD; oiled(0, MAX, 0) = BAD");
        edge("22: BAD: what", "scene; oiled(0, 0, -1) = BAD; oiled(0, 0, 2) = BAD; oiled(0, 0, MIN) = BAD; oiled(0, 0, MAX) = BAD");
        edge("22: NOTHING, behind BAD",
            "scene; oiled(3, 0, 0) = NOTHING; oiled(3, 4, 1) = NOTHING; oiled(3, 5, 0) = BAD; oiled(3, -1, 0) = BAD",
            "oiled(3, 0, 2) = BAD; oiled(3, 0, -1) = BAD");
        edge("22: by no places", "scene; oiled(2, 0, 0) = 0; oiled(2, 4, 1) = 0");
        edge("24: BAD", "scene; fine(-1) = BAD; fine(5) = BAD; fine(MIN) = BAD; fine(MAX) = BAD; fine(4) = 3; fine(1) = 0");
        edge("24: BAD without LAMPS, and without a TEXT", "fine(0) = BAD; lamp(0, 0, 0, 0); fine(0) = 0; fine(1) = BAD");
        edge("23: what fee gives", "fee() = 0; scene; fee() = 517; nights(1) = 50; fee() = 616");
    }

    private static void tape() {
        edge("25: the highest of each number first",
            "feed(1717921056, 825373492, 538976288) = 12; text() = 0; fee() = 1234; feed(538994277, 1696608562, 857743392) = 12",
            "text() = 1; fee() = 123; feed(538976288, 543581541, 540618784) = 12; text() = 2; fee() = 90");
        edge("25: FULL: it would have more than 96",
            "scene; 7 x feed(1, 2, 3); count(7) = 92; feed(1, 2, 3) = FULL; count(7) = 92; trim(85); feed(1, 2, 3) = FULL; trim(84)",
            "feed(1, 2, 3) = 96; feed(1, 2, 3) = FULL");
        edge("25: just 96",
            "feed(-1, MIN, MAX) = 12; feed(0, 0, 0) = 24; 5 x feed(0, 0, 0); feed(0, 0, 0) = 96; feed(0, 0, 0) = FULL; count(7) = 96",
            "text() = -100; feed(0, 0, 0) = 12");
        edge("26: BAD",
            "scene; trim(-1) = BAD; trim(9) = BAD; trim(96) = BAD; trim(97) = BAD; trim(MIN) = BAD; trim(MAX) = BAD; trim(8) = 8",
            "trim(7) = 7; trim(8) = BAD; trim(0) = 0; trim(1) = BAD; trim(0) = 0");
        edge("26: of an empty TAPE", "trim(0) = 0; trim(1) = BAD; trim(-1) = BAD; trim(12) = BAD");
        edge("26: its first n bytes", "scene; trim(6) = 6; text() = 3; fee() = 43");
        edge("26: what comes then stands behind them",
            "scene; trim(5) = 5; feed(926365495, 538976288, 538976288) = 17; text() = -104; feed(1717921056, 875770417, 538976288)",
            "trim(5); feed(724644404, 891297824, 538976288); text() = 3; fee() = 1249");
    }

    private static void texts() {
        edge("27: its number", "scene; text() = 3; fee() = 4321; count(7) = 0; count(5) = 4; why(1) = 3");
        edge("27: -100 less the place of its FAULT",
            "scene; trim(3) = 3; text() = -103; count(7) = 0; put \"burn o o\"; text() = -107; put \"(\"; text() = -100; text() = -100",
            "count(5) = 3; why(0) = 0");
        edge("27: FULL",
            "scene; trim(0); 11 x read \"fee 1\"; count(5) = 14; put \"fee 2\"; text() = FULL; count(7) = 0; fee() = 1; put \"burn 2\"",
            "text() = FULL; why(0) = 0");
        edge("27: FULL, behind a FAULT",
            "14 x read \"fee 1\"; read \"fee 1 1\" = -106; read \"\" = -100; read \"fee\" = -103; read \"fee 2\" = FULL; count(5) = 14");
        edge("28: BAD",
            "scene; textTold(-1, 0) = BAD; textTold(3, 0) = BAD; textTold(MIN, 0) = BAD; textTold(MAX, 0) = BAD; textTold(0, -1) = BAD",
            "textTold(0, 2) = BAD; textTold(0, MIN) = BAD; textTold(0, MAX) = BAD; textTold(2, 0) = 2; textTold(2, 1) = 3",
            "textTold(0, 0) = 0; textTold(0, 1) = 4; textTold(1, 0) = 1; textTold(1, 1) = 3");
        edge("28: BAD without TEXTS", "textTold(0, 0) = BAD; textTold(0, 1) = BAD; textTold(NONE, 0) = BAD");
        edge("29: BAD", "scene; why(-1) = BAD; why(3) = BAD; why(MIN) = BAD; why(MAX) = BAD; why(0) = 0; why(1) = 1; why(2) = 2");
        edge("29: NONE",
            "why(0) = NONE; why(1) = NONE; why(2) = NONE; read \"fine 1\" = 0; why(0) = NONE; why(1) = NONE; why(2) = 0; why(3) = BAD");
    }

    private static void sheet() {
        edge("30: BAD: sheet",
            "scene; sheet(-1, 0, 3) = BAD; sheet(4, 0, 3) = BAD; sheet(MIN, 0, 3) = BAD; sheet(MAX, 0, 3) = BAD; sheet(4, -1, 0) = BAD",
            "sheet(-1, -1, 0) = BAD");
        edge("30: BAD: sort", "scene; sheet(0, -2, 3) = BAD; sheet(0, 2, 3) = BAD; sheet(0, MIN, 3) = BAD; sheet(0, MAX, 3) = BAD");
        edge("30: BAD: n above 24",
            "scene; sheet(0, 0, 25) = BAD; sheet(0, 1, 25) = BAD; sheet(1, 0, MAX) = BAD; sheet(1, 1, MAX) = BAD; sheet(0, 0, 24) = 24");
        edge("30: SIZE",
            "scene; sheet(0, 0, -1) = SIZE; sheet(1, 1, -1) = SIZE; sheet(0, 0, MIN) = SIZE; sheet(3, 1, -24) = SIZE; reads(3) = NOTHING");
        edge("30: SIZE, behind BAD",
            "scene; sheet(4, 0, -1) = BAD; sheet(-1, 1, -1) = BAD; sheet(0, 2, -1) = BAD; sheet(0, -2, -1) = BAD");
        edge("30: sort -1: MISSING, n any: 0",
            "scene; sheet(0, -1, 25) = 0; sheet(1, -1, -1) = 0; sheet(2, -1, MIN) = 0; sheet(3, -1, MAX) = 0; reads(0) = NOTHING",
            "reads(1) = NOTHING; reads(2) = NOTHING; reads(3) = NOTHING");
        edge("30: all 0",
            "row(0, 1, 5, 6, NONE); sheet(0, 1, 3) = 3; lay(0, 2, 0); item(0, 0) = 0; item(0, 1) = 0; item(0, 2) = 0; item(0, 3) = INDEX",
            "row(0, 0, 5, 6, 7); sheet(0, 0, 1) = 1; sheet(0, 0, 3) = 3; lay(0, 2, 0); item(0, 0) = 0; item(0, 2) = 0");
        edge("30: all 0, where it was MISSING between",
            "row(0, 0, 5, 6, 7); sheet(0, -1, 0); sheet(0, 1, 2) = 2; lay(0, 2, 0); item(0, 0) = 0; item(0, 1) = 0; item(0, 2) = INDEX");
    }

    private static void mark() {
        edge("31: BAD: sheet",
            "scene; mark(-1, 0, 0) = BAD; mark(4, 0, 0) = BAD; mark(MIN, 0, 0) = BAD; mark(MAX, 0, 0) = BAD; mark(4, 99, NONE) = BAD");
        edge("31: NOTHING",
            "scene; mark(3, 0, 0) = NOTHING; mark(3, -1, 0) = NOTHING; mark(3, 0, NONE) = NOTHING; mark(3, 99, MAX) = NOTHING");
        edge("31: INDEX",
            "scene; mark(0, -1, 0) = INDEX; mark(0, 3, 0) = INDEX; mark(1, 4, 0) = INDEX; mark(2, 0, 0) = INDEX; mark(0, MIN, 0) = INDEX",
            "mark(0, MAX, 0) = INDEX; mark(0, 3, NONE) = INDEX; mark(1, 4, 100000) = INDEX; mark(2, -1, NONE) = INDEX");
        edge("31: KIND: NONE in a row of shorts",
            "scene; mark(0, 0, NONE) = KIND; mark(0, 2, NONE) = KIND; mark(0, 2, -1000000004) = 1; mark(0, 2, -1000000006) = 1");
        edge("31: BAD: v of floats",
            "scene; mark(1, 0, 100000) = BAD; mark(1, 0, -100000) = BAD; mark(1, 3, MIN) = BAD; mark(1, 3, MAX) = BAD",
            "mark(1, 0, BAD) = BAD; mark(1, 0, -1000000004) = BAD; mark(1, 0, -1000000006) = BAD");
        edge("31: of floats v, -99999 .. 99999",
            "sheet(0, 1, 3); mark(0, 0, 99999) = 1; mark(0, 1, -99999) = 1; mark(0, 2, NONE) = 1; lay(0, 2, 0); item(0, 0) = 99999",
            "item(0, 1) = -99999; item(0, 2) = KIND; mark(0, 2, 40000) = 1; lay(0, 2, 0); item(0, 2) = 40000");
        edge("31: of shorts its lowest 16 bits",
            "sheet(0, 0, 8); mark(0, 0, 32767) = 1; mark(0, 1, 32768) = 1; mark(0, 2, -32768) = 1; mark(0, 3, -32769) = 1",
            "mark(0, 4, 65536) = 1; mark(0, 5, MAX) = 1; mark(0, 6, MIN) = 1; mark(0, 7, 100000) = 1; lay(0, 2, 0); item(0, 0) = 32767",
            "item(0, 1) = -32768; item(0, 2) = -32768; item(0, 3) = 32767; item(0, 4) = 0; item(0, 5) = -1; item(0, 6) = 0",
            "item(0, 7) = -31072");
        edge("31: the first and the last of 24",
            "sheet(0, 0, 24); mark(0, 0, 1) = 1; mark(0, 23, 2) = 1; mark(0, 24, 3) = INDEX; lay(0, 2, 0); item(0, 0) = 1",
            "item(0, 23) = 2; item(0, 22) = 0");
    }

    private static void pourAndReads() {
        edge("32: BAD; NOTHING", "scene; pour(-1) = BAD; pour(4) = BAD; pour(MIN) = BAD; pour(MAX) = BAD; pour(3) = NOTHING");
        edge("32: each held within 0 .. 99",
            "5 x lamp(0, 0, 0, 50); row(0, 1, -1, 0, 99, 100, -99999); pour(0) = 5; told(0, 3) = 0; told(1, 3) = 0; told(2, 3) = 99",
            "told(3, 3) = 99; told(4, 3) = 0; pour(0) = 0; mark(0, 0, 99999); pour(0) = 1; told(0, 3) = 99");
        edge("32: NO NUMBER, and beyond the SHEET: it stays",
            "4 x lamp(0, 0, 0, 50); row(0, 1, NONE, 50, 7); pour(0) = 1; told(0, 3) = 50; told(1, 3) = 50; told(2, 3) = 7",
            "told(3, 3) = 50");
        edge("32: a SHEET that goes beyond the LAMPS, one of no places, no LAMPS",
            "row(0, 0, 1, 2, 3); pour(0) = 0; lamp(0, 0, 0, 50); pour(0) = 1; told(0, 3) = 1; sheet(1, 0, 0); pour(1) = 0",
            "lamp(0, 0, 0, 50); told(1, 3) = 50; sheet(1, 0, 24); pour(1) = 2");
        edge("33: BAD; NOTHING", "scene; reads(-1) = BAD; reads(4) = BAD; reads(MIN) = BAD; reads(MAX) = BAD; reads(3) = NOTHING");
        edge("33: NONE: there is none",
            "scene; reads(2) = NONE; row(3, 1, NONE, NONE, NONE, NONE, NONE, NONE, NONE); reads(3) = NONE; rule(0, 2)",
            "row(3, 0, 0, 1, 3, 2, 4); reads(3) = NONE; row(3, 0, 0, 1); reads(3) = NONE");
        edge("33: of places beyond it all numbers are not",
            "row(0, 0, 0); reads(0) = 0; lamp(0, 0, 0, 0); reads(0) = NONE; row(0, 0, 0, 0); reads(0) = 1; row(0, 1, 0, NONE, 5)",
            "reads(0) = 2; row(0, 1, NONE, NONE); reads(0) = NONE; 9 x lamp(0, 0, 0, 0); row(0, 1, 0, 1, 2, 3, 4, 5, 6, 7, 8, 9, 10)",
            "reads(0) = 10; mark(0, 10, NONE); reads(0) = NONE");
        edge("33: the first place (of numbers alone)",
            "3 x lamp(0, 0, 0, 0); row(0, 1, NONE, 2, 1); reads(0) = 1; row(0, 1, 1, 1, 2); reads(0) = 0; row(0, 1, 0, NONE, 1)",
            "reads(0) = 2; row(0, 1, 0, 1, -1); reads(0) = 2");
    }

    private static void copy() {
        edge("34: BAD",
            "scene; copy(-1, 0, 0, 0, 1) = BAD; copy(4, 0, 0, 0, 1) = BAD; copy(0, 0, -1, 0, 1) = BAD; copy(0, 0, 4, 0, 1) = BAD",
            "copy(MIN, 0, MAX, 0, 1) = BAD; copy(MAX, 0, 0, 0, 1) = BAD; copy(0, 0, MIN, 0, 1) = BAD");
        edge("34: BAD ahead of NOTHING, KIND, INDEX",
            "scene; copy(3, 0, 4, 0, 1) = BAD; copy(4, 0, 3, 0, 1) = BAD; copy(4, -1, 0, 99, -1) = BAD");
        edge("34: NOTHING",
            "scene; copy(3, 0, 0, 0, 1) = NOTHING; copy(0, 0, 3, 0, 1) = NOTHING; copy(3, 0, 3, 0, 0) = NOTHING",
            "copy(3, -1, 1, 99, -1) = NOTHING; copy(1, -1, 3, 99, -1) = NOTHING");
        edge("34: KIND: they are not of one sort",
            "scene; copy(0, 0, 1, 0, 1) = KIND; copy(1, 0, 0, 0, 1) = KIND; copy(0, 0, 2, 0, 0) = KIND; copy(1, -1, 0, 99, -1) = KIND",
            "copy(0, MAX, 1, MIN, MIN) = KIND");
        edge("34: INDEX: from",
            "scene; copy(0, -1, 0, 0, 1) = INDEX; copy(0, 3, 0, 0, 1) = INDEX; copy(0, 1, 0, 0, 3) = INDEX; copy(0, 4, 0, 0, 0) = INDEX",
            "copy(0, -1, 0, 0, 0) = INDEX; copy(0, MAX, 0, 0, 1) = INDEX; copy(0, MIN, 0, 0, 1) = INDEX; copy(0, MAX, 0, 0, MAX) = INDEX",
            "copy(2, 0, 1, 0, 1) = INDEX");
        edge("34: INDEX: to",
            "scene; copy(0, 0, 0, -1, 1) = INDEX; copy(0, 0, 0, 3, 1) = INDEX; copy(0, 0, 0, 1, 3) = INDEX; copy(0, 0, 0, 4, 0) = INDEX",
            "copy(0, 0, 0, -1, 0) = INDEX; copy(0, 0, 0, MAX, 1) = INDEX; copy(0, 0, 0, MIN, 1) = INDEX; copy(0, 0, 0, MAX, 2) = INDEX",
            "copy(1, 0, 2, 0, 1) = INDEX");
        edge("34: INDEX: many",
            "scene; copy(0, 0, 0, 0, 4) = INDEX; copy(0, 0, 0, 0, -1) = INDEX; copy(0, 2, 0, 2, -1) = INDEX",
            "copy(0, 0, 0, 0, MIN) = INDEX; copy(0, 0, 0, 0, MAX) = INDEX; copy(0, 3, 0, 3, MIN) = INDEX");
        edge("34: none, right behind the last place",
            "scene; copy(0, 3, 0, 3, 0) = 0; copy(2, 0, 2, 0, 0) = 0; copy(1, 4, 2, 0, 0) = 0; copy(1, 0, 1, 0, 0) = 0");
        edge("34: all of 24, and as they were",
            "sheet(0, 0, 24); mark(0, 0, 1); mark(0, 1, 2); mark(0, 2, 3); mark(0, 23, 9); sheet(1, 0, 24); copy(0, 0, 1, 0, 24) = 24",
            "copy(0, 0, 0, 1, 23) = 23; lay(0, 2, 0); lay(1, 2, 1); item(0, 0) = 1; item(0, 1) = 1; item(0, 2) = 2; item(0, 3) = 3",
            "item(0, 4) = 0; item(0, 23) = 0; item(1, 0) = 1; item(1, 23) = 9; copy(1, 1, 1, 0, 23) = 23; lay(1, 2, 1); item(1, 0) = 2",
            "item(1, 1) = 3; item(1, 22) = 9; item(1, 23) = 9");
        edge("34: NO NUMBER comes along",
            "row(0, 1, NONE, 5); row(1, 1, 7, 8, 9); copy(0, 0, 1, 1, 2) = 2; lay(0, 2, 1); item(0, 0) = 7; item(0, 1) = KIND",
            "item(0, 2) = 5; copy(1, 2, 1, 1, 1) = 1; lay(0, 2, 1); item(0, 1) = 5");
    }

    private static void lay() {
        edge("35: BAD: slot",
            "scene; lay(-1, 0, 0) = BAD; lay(5, 0, 0) = BAD; lay(MIN, 3, 0) = BAD; lay(MAX, 3, 0) = BAD; lay(5, 2, 3) = BAD");
        edge("35: BAD: thing", "scene; lay(0, -1, 0) = BAD; lay(0, 4, 0) = BAD; lay(0, MIN, 0) = BAD; lay(0, MAX, 0) = BAD");
        edge("35: BAD: k",
            "scene; lay(0, 1, -1) = BAD; lay(0, 1, 5) = BAD; lay(0, 1, MIN) = BAD; lay(0, 1, MAX) = BAD; lay(0, 2, -1) = BAD",
            "lay(0, 2, 4) = BAD; lay(0, 2, MIN) = BAD; lay(0, 2, MAX) = BAD");
        edge("35: NOTHING: that SHEET is MISSING, behind BAD",
            "scene; lay(0, 2, 3) = NOTHING; lay(2, 2, 3) = NOTHING; lay(4, 2, 3) = NOTHING; lay(5, 2, 3) = BAD; lay(-1, 2, 3) = BAD");
        edge("35: what it held (0 .. 3)",
            "scene; lay(0, 0, 9) = 1; lay(0, 0, MIN) = 0; lay(1, 3, MAX) = 2; lay(1, 3, MIN) = 3; lay(1, 1, 4) = 3; lay(1, 1, 0) = 1",
            "lay(1, 2, 2) = 1; lay(1, 2, 0) = 2; lay(1, 0, MAX) = 2; lay(4, 3, 0) = 0; lay(4, 0, 0) = 3");
        edge("35: nothing is nothing then",
            "scene; lay(0, 0, 0) = 1; ask(0, 0) = NOTHING; lay(1, 0, 0) = 2; item(1, 0) = NOTHING; lay(2, 0, 0) = 3",
            "rest(2, 5) = NOTHING");
        edge("35: the number k, any",
            "lay(0, 3, MIN); rest(0, MAX) = -1; lay(0, 3, MAX); rest(0, MIN) = MAX; lay(0, 3, 0); rest(0, 7) = 0; lay(0, 3, NOTHING)",
            "rest(0, MIN) = NOTHING");
    }

    private static void asked() {
        edge("36: BAD",
            "scene; ask(-1, 0) = BAD; ask(5, 0) = BAD; ask(MIN, 0) = BAD; ask(MAX, 0) = BAD; ask(0, -1) = BAD; ask(0, 6) = BAD",
            "ask(0, MIN) = BAD; ask(0, MAX) = BAD");
        edge("36: NOTHING, behind BAD", "scene; ask(4, 0) = NOTHING; ask(4, 5) = NOTHING; ask(4, 6) = BAD; ask(4, -1) = BAD");
        edge("36: KIND, behind BAD",
            "scene; ask(1, 0) = KIND; ask(2, 0) = KIND; ask(3, 5) = KIND; ask(1, 6) = BAD; ask(2, -1) = BAD; ask(0, 1) = KIND",
            "ask(0, 3) = KIND; ask(0, 5) = KIND; ask(0, 4) = 75; ask(0, 2) = 75; ask(0, 0) = 75");
        edge("37: BAD: slot; NOTHING",
            "scene; item(-1, 0) = BAD; item(5, 0) = BAD; item(MIN, 0) = BAD; item(MAX, 0) = BAD; item(5, -1) = BAD; item(4, 0) = NOTHING",
            "item(4, -1) = NOTHING; item(4, MAX) = NOTHING");
        edge("37: KIND: it is no SHEET, ahead of INDEX",
            "scene; item(0, 0) = KIND; item(2, 0) = KIND; item(0, -1) = KIND; item(2, 99) = KIND");
        edge("37: INDEX",
            "scene; item(1, -1) = INDEX; item(1, 3) = INDEX; item(3, 4) = INDEX; item(1, MIN) = INDEX; item(1, MAX) = INDEX",
            "lay(4, 2, 2); item(4, 0) = INDEX; item(4, -1) = INDEX; item(1, 2) = 300; item(3, 3) = 2");
        edge("37: KIND: NO NUMBER", "scene; item(3, 1) = KIND; item(3, 0) = 4; item(3, 2) = 99999; item(1, 1) = -7");
        edge("38: BAD: slot; NOTHING",
            "scene; rest(-1, 1) = BAD; rest(5, 1) = BAD; rest(MIN, 0) = BAD; rest(MAX, 0) = BAD; rest(5, 0) = BAD; rest(4, 1) = NOTHING",
            "rest(4, 0) = NOTHING");
        edge("38: KIND: it is no number, ahead of NO",
            "scene; rest(0, 1) = KIND; rest(1, 1) = KIND; rest(3, 1) = KIND; rest(0, 0) = KIND; rest(1, 0) = KIND");
        edge("38: NO: n is 0", "scene; rest(2, 0) = NO; rest(2, 1) = 0; rest(2, -1) = 0; lay(4, 3, 0); rest(4, 0) = NO; rest(4, 5) = 0");
        edge("38: rest, with signs and at the ends",
            "lay(0, 3, -7); rest(0, 2) = -1; rest(0, -2) = -1; rest(0, 7) = 0; rest(0, 8) = -7; lay(0, 3, 7); rest(0, -2) = 1",
            "rest(0, 2) = 1; lay(0, 3, MIN); rest(0, -1) = 0; rest(0, MIN) = 0; rest(0, MAX) = -1; rest(0, 10) = -8; lay(0, 3, MAX)",
            "rest(0, MIN) = MAX; rest(0, MAX) = 0");
    }

    private static void rows() {
        edge("39: how many", "tell(MIN) = 1; tell(MAX) = 2; tell(0) = 3; tell(NONE) = 4; count(6) = 4");
        edge("39: FULL: 60 wait",
            "scene; 55 x tell(7); tell(8) = 60; tell(9) = FULL; tell(0) = FULL; count(6) = 60; check(2) = 5; count(6) = 0; tell(9) = 1");
        edge("39: all 60 count",
            "keep(); 60 x tell(0); tell(0) = FULL; check(30) = 0; 59 x tell(0); tell(1) = 60; tell(0) = FULL; check(30) = 60");
        edge("40: BAD, none wait then",
            "scene; check(0) = BAD; count(6) = 0; tell(1) = 1; check(31) = BAD; count(6) = 0; tell(1) = 1; check(-1) = BAD; count(6) = 0",
            "tell(1); check(MIN) = BAD; count(6) = 0; tell(1); check(MAX) = BAD; count(6) = 0");
        edge("40: NO: there is no IMAGE, none wait then",
            "tell(1); tell(2); check(1) = NO; count(6) = 0; tell(3) = 1; check(30) = NO; count(6) = 0; check(1) = NO");
        edge("40: NO changes nothing else", "imageless; count(6) = 4; check(1) = NO; count(6) = 0; tell(5); check(30) = NO; count(6) = 0");
        edge("40: NO, behind BAD", "tell(1); check(0) = BAD; count(6) = 0; tell(1); check(31) = BAD; count(6) = 0");
        edge("40: none wait then, if all are right", "scene; check(2) = 0; count(6) = 0; check(2) = 1; count(6) = 0");
        edge("40: none wait then, if one is not",
            "scene; check(1) = 3; count(6) = 0; tell(12); tell(930); tell(24); check(2) = 2; count(6) = 0");
        edge("40: the first that is not",
            "scene; check(2) = 0; tell(11); check(2) = 1; tell(12); tell(932); check(2) = 2; tell(12); tell(931); tell(25); tell(863)",
            "check(2) = 3; tell(12); tell(931); tell(24); tell(864); check(2) = 4");
        edge("40: or is missing",
            "scene; check(3) = 5; check(1) = 1; tell(12); check(1) = 2; tell(12); tell(931); check(2) = 3; tell(12); tell(931); tell(24)",
            "check(2) = 4");
        edge("40: or one too many", "scene; check(1) = 3; tell(12); tell(931); tell(0); check(1) = 3; tell(12); tell(931); check(1) = 0");
        edge("40: n (1 .. 30)",
            "keep(); 2 x tell(0); check(1) = 0; 60 x tell(0); check(30) = 0; 60 x tell(0); check(29) = 59; 58 x tell(0); check(30) = 59");
        edge("40: fewer, if THE NIGHT would be above 9999",
            "99 x nights(100); nights(98); keep(); 2 x tell(0); check(30) = 0; 2 x tell(0); check(1) = 0; 3 x tell(0); check(2) = 3",
            "tell(0); check(2) = 2; nights(1); keep(); check(30) = 0; tell(0); check(30) = 1; check(31) = BAD; check(0) = BAD");
    }

    private static void images() {
        edge("41: how many LAMPS", "keep() = 0; deal(3); keep() = 3; deal(7); keep() = 10; back() = 10");
        edge("42: NO: there is none",
            "back() = NO; deal(3); nights(1); tell(5); put \"fee 1\"; back() = NO; row(0, 0, 5); lay(0, 3, 1); back() = NO; count(0) = 3",
            "keep() = 3; back() = 3");
        edge("42: NO changes nothing", "imageless; back() = NO; count(0) = 5; count(6) = 4");
        edge("42: NO, and the numbers that wait",
            "lamp(0, 10, 40, 20); lamp(5, 10, 0, 0); tell(12); tell(931); back() = NO; keep(); check(1) = 0");
        edge("42: All is as THE IMAGE",
            "scene; back() = 2; count(0) = 2; count(1) = 0; count(2) = 0; count(3) = 0; count(4) = 600; count(5) = 0; count(8) = 1",
            "street(0) = 0; told(0, 2) = 40; told(0, 4) = 0; told(0, 5) = 0; told(1, 4) = 1; told(2, 0) = BAD; why(0) = NONE",
            "why(1) = NONE; why(2) = NONE; textTold(0, 0) = BAD; fee() = 0; count(6) = 4; count(7) = 8; check(2) = 0; text() = 0",
            "fee() = 4321; rest(2, 10) = -9; item(1, 2) = 300; mark(0, 2, 5) = 1");
        edge("43: BAD",
            "scene; count(-1) = BAD; count(9) = BAD; count(MIN) = BAD; count(MAX) = BAD; count(0) = 5; count(1) = 3; count(2) = 1",
            "count(3) = 7; count(4) = 500; count(5) = 3; count(6) = 4; count(7) = 8; count(8) = 662824084");
    }
}
