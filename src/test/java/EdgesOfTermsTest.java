/**
 * The sentences of "Terms" that name an edge (the least, the most, none, full, a wrap-around), each by a run of its own.
 * From z = 1 on the nights have WIND 4, 2, 6, 3, 7, 6, 0.
 */
public final class EdgesOfTermsTest {
    private static final Due due = new Due();

    public static void main(String[] args) {
        allCalls();
        parts();
        rules();
        burns();
        drinksAndWorth();
        theOrder();
        draws();
        aNight();
        wayAndDark();
        onlyThought();
        roundAndFirst();
        leastSparedLast();
        oiled();
        manyTexts();
        wordsAndSigns();
        faults();
        nesting();
        whatTextsGive();
        names();
        sheetsAndSlots();
        image();
        nightsTold();
        due.end();
    }

    private static void edge(String sentence, String... calls) {
        Script.run(due, sentence, calls);
    }

    private static void allCalls() {
        edge("An object is used for at most 512 calls", "511 x seed(7); seed(9) = 7");
        edge("/ cuts towards 0",
            "read \"fee (0-7)/2\" = 0; fee() = -3; read \"fee 7/(0-2)\" = 1; fee() = -3; read \"fee (0-7)/(0-2)\" = 2; fee() = 3");
        edge("NONE: there is none",
            "round() = 1; behind(0, 3) = NONE; spared(1, 0) = NONE; last(1, 0) = NONE; why(0) = NONE; sheet(0, 0, 0); reads(0) = NONE");
        edge("Sets of LAMPS are told by bits: none", "dark(0) = 0");
        edge("Sets of LAMPS are told by bits: each",
            "10 x lamp(0, 0, 0, 0); dark(9) = 1023; set(0, 4, 50); dark(9) = 1022; set(9, 4, 50); dark(9) = 510");
    }

    private static void parts() {
        edge("LAMPS, 10 at most", "9 x lamp(0, 0, 0, 0); lamp(0, 0, 0, 0) = 9; lamp(0, 0, 0, 0) = FULL; count(0) = 10");
        edge("LAMPS, numbered from 0", "told(0, 0) = BAD; lamp(3, 1, 1, 1) = 0; told(0, 0) = 3; told(1, 0) = BAD; told(-1, 0) = BAD");
        edge("PLACE 0 .. 99",
            "lamp(0, -1, 5, 5) = BAD; lamp(0, 100, 5, 5) = BAD; lamp(0, 0, 5, 5) = 0; lamp(0, 99, 5, 5) = 1; told(0, 1) = 0",
            "told(1, 1) = 99; set(0, 1, -1) = BAD; set(0, 1, 100) = BAD; set(0, 1, 99) = 0; set(0, 1, 0) = 99; told(0, 1) = 0");
        edge("OIL 0 .. 999",
            "lamp(0, 5, -1, 5) = BAD; lamp(0, 5, 1000, 5) = BAD; lamp(0, 5, 0, 5) = 0; lamp(0, 5, 999, 5) = 1; told(0, 2) = 0",
            "told(1, 2) = 999; set(0, 2, -1) = BAD; set(0, 2, 1000) = BAD; set(0, 2, 999) = 0; set(0, 2, 0) = 999; told(0, 2) = 0");
        edge("POURED 0 .. 99",
            "lamp(0, 5, 5, -1) = BAD; lamp(0, 5, 5, 100) = BAD; lamp(0, 5, 5, 0) = 0; lamp(0, 5, 5, 99) = 1; told(0, 3) = 0",
            "told(1, 3) = 99; set(0, 3, -1) = BAD; set(0, 3, 100) = BAD; set(0, 3, 99) = 0; set(0, 3, 0) = 99; told(0, 3) = 0");
        edge("ENDED is its number, at first",
            "9 x lamp(0, 0, 0, 0); deal(1); told(0, 4) = 0; told(1, 4) = 1; told(8, 4) = 8; told(9, 4) = 9");
        edge("ENDED 0 .. 9999",
            "lamp(0, 0, 0, 0); set(0, 4, -1) = BAD; set(0, 4, 10000) = BAD; set(0, 4, 9999) = 0; set(0, 4, 0) = 9999; told(0, 4) = 0");
        edge("LIT is 0 at first", "lamp(0, 7, 0, 0); deal(1); told(0, 5) = 0; told(1, 5) = 0");
        edge("DARKS is 0 at first", "lamp(0, 7, 0, 0); deal(1); told(0, 6) = 0; told(1, 6) = 0");
        edge("LIT, DARKS, ENDED at first, where another LAMP was before THE IMAGE came back",
            "keep(); lamp(0, 7, 0, 0); nights(2); told(0, 5) = 8; told(0, 6) = 2; back(); lamp(0, 7, 0, 0) = 0; told(0, 4) = 0",
            "told(0, 5) = 0; told(0, 6) = 0");
        edge("KINDS 0 to 5",
            "lamp(-1, 0, 0, 0) = BAD; lamp(6, 0, 0, 0) = BAD; lamp(0, 0, 0, 0) = 0; lamp(5, 0, 0, 0) = 1; turns(0, -1) = BAD",
            "turns(0, 6) = BAD; turns(0, 5) = 0; turns(0, 0) = 5; as(0, -1) = BAD; as(0, 6) = BAD");
        edge("SHELTERED, OPEN, CANAL under LAMP",
            "lamp(1, 7, 0, 0); lamp(2, 8, 0, 0); lamp(5, 9, 0, 0); as(0, 0) = 7; as(1, 0) = 8; as(2, 0) = 9; as(0, 2) = KIND",
            "as(0, 3) = KIND; as(0, 5) = KIND; as(1, 1) = KIND; as(1, 4) = KIND; as(1, 5) = KIND; as(2, 1) = KIND; as(2, 2) = KIND");
        edge("GLAZED under SHELTERED",
            "lamp(3, 7, 0, 0); as(0, 3) = 7; as(0, 1) = 7; as(0, 0) = 7; as(0, 2) = KIND; as(0, 4) = KIND; as(0, 5) = KIND");
        edge("LEAKY under OPEN",
            "lamp(4, 7, 0, 0); as(0, 4) = 7; as(0, 2) = 7; as(0, 0) = 7; as(0, 1) = KIND; as(0, 3) = KIND; as(0, 5) = KIND");
        edge("LAMP is under none",
            "lamp(0, 7, 0, 0); as(0, 0) = 7; as(0, 1) = KIND; as(0, 2) = KIND; as(0, 3) = KIND; as(0, 4) = KIND; as(0, 5) = KIND");
    }

    private static void rules() {
        edge("LAW is 0 (at first), 1, 2",
            "count(2) = 0; rule(0, -1) = BAD; rule(0, 3) = BAD; rule(0, 2) = 0; rule(0, 1) = 2; rule(0, 0) = 1; count(2) = 0");
        edge("WIND 0 .. 9 (0 at first)",
            "count(3) = 0; rule(1, -1) = BAD; rule(1, 10) = BAD; rule(1, 9) = 0; count(3) = 9; rule(1, 0) = 9; count(3) = 0");
        edge("DAWN 60 .. 999 (600 at first)",
            "count(4) = 600; rule(2, 59) = BAD; rule(2, 1000) = BAD; rule(2, 60) = 600; rule(2, 999) = 60; count(4) = 999");
        edge("WALKED is 0 at first", "street(0) = 0; lamp(0, 7, 0, 0); street(0) = 0; nights(1) = 8; street(0) = 8");
        edge("THE NIGHT is 0 at first, 9999 at most",
            "count(1) = 0; lamp(0, 0, 0, 0); 99 x nights(100) = 100; nights(98) = 98; count(1) = 9998; nights(2) = 1; count(1) = 9999",
            "nights(1) = 0; nights(100) = 0; count(1) = 9999; street(0) = 9999");
    }

    private static void burns() {
        edge("OIL times 10, less WIND times OIL / 2",
            "lamp(0, 0, 3, 0); told(0, 7) = 30; rule(1, 1); told(0, 7) = 29; rule(1, 9); told(0, 7) = 17; set(0, 2, 0); told(0, 7) = 0",
            "set(0, 2, 999); told(0, 7) = 5495; rule(1, 0); told(0, 7) = 9990");
        edge("what burn gives, held within 0 .. 9999",
            "lamp(0, 0, 3, 0); read \"burn o-3\"; told(0, 7) = 0; read \"burn o-4\"; told(0, 7) = 0; read \"burn 9999\"",
            "told(0, 7) = 9999; read \"burn 9997+o\"; told(0, 7) = 9999; read \"burn 9995+o\"; told(0, 7) = 9998",
            "read \"burn 9999*9999*9999\"; told(0, 7) = 0; read \"burn 8192*8192*32-1\"; told(0, 7) = 9999");
        edge("held ahead of what KINDS make of it",
            "lamp(1, 0, 3, 0); lamp(2, 0, 3, 0); lamp(4, 0, 3, 0); read \"burn 9999+9\"; told(0, 7) = 5014; told(1, 7) = 9979",
            "told(2, 7) = 4989; read \"burn 0-9\"; told(0, 7) = 15; told(1, 7) = 0; told(2, 7) = 0");
        edge("SHELTERED: the middle (cut)",
            "lamp(1, 0, 3, 0); told(0, 7) = 30; rule(1, 1); told(0, 7) = 29; set(0, 2, 0); told(0, 7) = 0");
        edge("GLAZED: OIL times 10",
            "lamp(3, 0, 3, 0); rule(1, 9); told(0, 7) = 30; set(0, 2, 0); told(0, 7) = 0; set(0, 2, 999); told(0, 7) = 9990",
            "read \"burn 1\"; told(0, 7) = 9990");
        edge("OPEN: less 20 (0 at least)",
            "lamp(2, 0, 3, 0); told(0, 7) = 10; set(0, 2, 2); told(0, 7) = 0; set(0, 2, 1); told(0, 7) = 0; set(0, 2, 0); told(0, 7) = 0");
        edge("LEAKY: half (cut) of as OPEN", "lamp(4, 0, 3, 0); told(0, 7) = 5; rule(1, 1); told(0, 7) = 4; set(0, 2, 1); told(0, 7) = 0");
        edge("CANAL: 9999",
            "lamp(5, 0, 0, 0); told(0, 7) = 9999; rule(1, 9); set(0, 2, 999); told(0, 7) = 9999; read \"burn 1\"; told(0, 7) = 9999");
    }

    private static void drinksAndWorth() {
        edge("m / 10",
            "lamp(0, 0, 999, 0); drinks(0, 0) = 0; drinks(0, 9) = 0; drinks(0, 10) = 1; drinks(0, 19) = 1; drinks(0, 999) = 99");
        edge("DRINKS: OIL at most",
            "lamp(0, 0, 5, 0); drinks(0, 49) = 4; drinks(0, 50) = 5; drinks(0, 60) = 5; drinks(0, 999) = 5; set(0, 2, 0)",
            "drinks(0, 999) = 0; set(0, 2, 5); turns(0, 1); drinks(0, 60) = 5; turns(0, 2); drinks(0, 60) = 5; turns(0, 3)",
            "drinks(0, 60) = 5");
        edge("LEAKY drinks as OPEN, and 5, OIL at most",
            "lamp(4, 0, 6, 0); drinks(0, 9) = 5; drinks(0, 10) = 6; drinks(0, 20) = 6; drinks(0, 999) = 6; set(0, 2, 5)",
            "drinks(0, 0) = 5; set(0, 2, 4); drinks(0, 0) = 4; set(0, 2, 0); drinks(0, 999) = 0; set(0, 2, 999); drinks(0, 999) = 104");
        edge("CANAL drinks 0", "lamp(5, 0, 999, 0); drinks(0, 0) = 0; drinks(0, 999) = 0");
        edge("m 0 .. 999", "lamp(0, 0, 5, 0); drinks(0, -1) = BAD; drinks(0, 1000) = BAD; drinks(0, 0) = 0; drinks(0, 999) = 5");
        edge("WORTH at PLACE 0",
            "lamp(0, 0, 0, 0); told(0, 8) = 0; turns(0, 1); told(0, 8) = 6; turns(0, 2); told(0, 8) = 99; turns(0, 3); told(0, 8) = 12",
            "turns(0, 4); told(0, 8) = 95; turns(0, 5); told(0, 8) = 3");
        edge("WORTH at PLACE 99",
            "lamp(0, 99, 0, 0); told(0, 8) = 99; turns(0, 1); told(0, 8) = 105; turns(0, 2); told(0, 8) = 0; turns(0, 3)",
            "told(0, 8) = 210; turns(0, 4); told(0, 8) = -4; turns(0, 5); told(0, 8) = 3");
    }

    private static void theOrder() {
        String three = "lamp(0, 9, 0, 0); lamp(0, 4, 0, 0); lamp(0, 9, 0, 0); lamp(0, 4, 0, 0); set(0, 4, 7); set(1, 4, 7); set(2, 4, 3); set(3, 4, 3); ";
        edge("by LAW 0 by ENDED (lesser ahead); of several the lesser number", three,
            "order(0) = 2; order(1) = 3; order(2) = 0; order(3) = 1");
        edge("by LAW 1 by ENDED (greater ahead); of several the lesser number", three,
            "rule(0, 1); order(0) = 0; order(1) = 1; order(2) = 2; order(3) = 3");
        edge("by LAW 2 by PLACE (lesser ahead); of several the lesser number", three,
            "rule(0, 2); order(0) = 1; order(1) = 3; order(2) = 0; order(3) = 2");
        edge("ENDED 0 and 9999",
            "lamp(0, 0, 0, 0); lamp(0, 0, 0, 0); set(0, 4, 9999); set(1, 4, 0); order(0) = 1; rule(0, 1); order(0) = 0");
        edge("PLACE 0 and 99", "lamp(0, 99, 0, 0); lamp(0, 0, 0, 0); rule(0, 2); order(0) = 1; order(1) = 0");
        edge("of ten the lesser number", "10 x lamp(0, 5, 0, 0); rule(0, 2); order(0) = 0; order(8) = 8; order(9) = 9; order(10) = BAD");
    }

    private static void draws() {
        edge("WIND is its rest by 10", "seed(6); nights(1); count(3) = 0; seed(MAX); nights(1); count(3) = 9");
        edge("z is told (1 at first)", "count(8) = 1; seed(5) = 1");
        edge("z becomes z * 1103515245 + 12345 (an int)",
            "nights(1); count(8) = 1103527590; seed(0); nights(1); count(8) = 12345; seed(MAX); nights(1); count(8) = 1043980748",
            "seed(-1); nights(1); count(8) = -1103502900; seed(MIN); nights(1); count(8) = -2147471303");
        edge("it gives z >>> 8", "seed(-1); nights(1); count(3) = 7; seed(MIN); nights(1); count(3) = 6");
        edge("KIND the rest by 6, PLACE by 60, OIL by 80, POURED by 40: the most",
            "seed(1705226); deal(1) = 1; told(0, 0) = 5; told(0, 1) = 59; told(0, 2) = 79; told(0, 3) = 39; count(8) = 719022038");
        edge("KIND, PLACE, OIL, POURED that are drawn: the least",
            "seed(182165); deal(1) = 1; told(0, 0) = 0; told(0, 1) = 0; told(0, 2) = 0; told(0, 3) = 0; count(8) = 1796556817");
    }

    private static void aNight() {
        edge("starts at PLACE 0 at minute 0; minutes are more by how far the PLACES are apart, and 1",
            "lamp(0, 0, 0, 0); nights(1) = 1; told(0, 5) = 1; lamp(0, 99, 0, 0); nights(1) = 101; told(1, 5) = 101; street(0) = 102",
            "nights(1) = 101; street(0) = 203");
        edge("DAWN at most",
            "rule(2, 60); read \"burn 1\"; lamp(0, 58, 5, 0); nights(1) = 59; told(0, 5) = 59; told(0, 4) = 60; read \"burn 2\"",
            "nights(1); told(0, 4) = 60; read \"burn 0\"; nights(1); told(0, 4) = 59; set(0, 1, 59); read \"burn 9\"; nights(1)",
            "told(0, 5) = 60; told(0, 4) = 60");
        edge("LIT, if that is above DAWN",
            "rule(2, 60); lamp(0, 60, 5, 0); lamp(4, 60, 9, 0); lamp(5, 60, 5, 0); nights(1) = 63; told(0, 5) = 61; told(0, 4) = 61",
            "told(0, 2) = 5; told(1, 4) = 62; told(1, 2) = 4; told(2, 4) = 63; told(2, 2) = 5");
        edge("the last of ten is LIT at 1000 at most",
            "rule(2, 999); lamp(5, 99, 0, 0); lamp(5, 0, 0, 0); lamp(5, 99, 0, 0); lamp(5, 0, 0, 0); lamp(5, 99, 0, 0); lamp(5, 0, 0, 0)",
            "lamp(5, 99, 0, 0); lamp(5, 0, 0, 0); lamp(5, 99, 0, 0); lamp(5, 0, 0, 0); way() = 1000; nights(1) = 1000; told(9, 5) = 1000",
            "told(9, 4) = 1000; told(8, 5) = 900; told(8, 4) = 999");
        edge("it DRINKS for as many minutes as are between: OIL is so much less",
            "lamp(3, 8, 2, 0); nights(1); told(0, 4) = 29; told(0, 2) = 0; nights(1); told(0, 4) = 9");
        edge("If its OIL was 0, DARKS is 1 more",
            "lamp(0, 0, 0, 1); nights(1); told(0, 6) = 1; nights(1); told(0, 6) = 1; lamp(0, 0, 1, 0); nights(1); told(1, 6) = 0",
            "nights(1); told(1, 6) = 0; set(1, 2, 0); nights(2); told(1, 6) = 2");
        edge("If its OIL was 0, whatever burn gives",
            "read \"burn 50\"; lamp(0, 0, 0, 0); nights(1); told(0, 6) = 1; told(0, 4) = 51; told(0, 2) = 0");
        edge("and it is no CANAL", "lamp(5, 0, 0, 0); nights(3); told(0, 6) = 0; turns(0, 3); nights(1); told(0, 6) = 1");
        edge("OIL of each is POURED more (999 at most)",
            "lamp(5, 0, 899, 99); lamp(5, 0, 900, 99); lamp(5, 0, 901, 99); lamp(5, 0, 999, 99); lamp(5, 0, 999, 0); nights(1)",
            "told(0, 2) = 998; told(1, 2) = 999; told(2, 2) = 999; told(3, 2) = 999; told(4, 2) = 999; street(2) = 4994");
        edge("THE NIGHT is 1 more", "nights(1); count(1) = 1; nights(1); count(1) = 2");
    }

    private static void wayAndDark() {
        edge("WAY, without LAMPS", "way() = 0");
        edge("WAY from PLACE 0 on",
            "lamp(0, 0, 0, 0); way() = 1; set(0, 1, 99); way() = 100; lamp(0, 99, 0, 0); way() = 101; lamp(0, 0, 0, 0); way() = 201");
        edge("DARK ahead of the first night", "lamp(0, 0, 0, 0); lamp(0, 0, 0, 0); dark(0) = 1; dark(1) = 3");
        // LIT at 5, burns 20 - 4.
        edge("LIT above m", "lamp(0, 4, 2, 0); nights(1); told(0, 5) = 5; dark(0) = 1; dark(4) = 1; dark(5) = 0; dark(6) = 0");
        edge("ENDED m or less", "lamp(0, 4, 2, 0); nights(1); told(0, 4) = 21; dark(20) = 0; dark(21) = 1; dark(22) = 1; dark(9999) = 1");
        edge("DARK at the last minute",
            "lamp(0, 4, 2, 0); set(0, 4, 9999); dark(9998) = 0; dark(9999) = 1; dark(10000) = BAD; dark(-1) = BAD");
        edge("DARK of one that is lit and out at once",
            "lamp(0, 4, 0, 0); nights(1); told(0, 5) = 5; told(0, 4) = 5; dark(4) = 1; dark(5) = 1; dark(6) = 1");
    }

    private static void onlyThought() {
        edge("without the bound of THE NIGHT",
            "lamp(3, 0, 20, 0); row(0, 1, 101); 99 x nights(100); nights(99); count(1) = 9999; behind(100, 0) = 10099",
            "behind(1, 0) = 10000; round() = 1; first(0, 20) = 0; leastLaw(60, 1) = 10059; spared(60, 1) = 9999; last(60, 1) = 60",
            "oiled(0, 0, 0) = 10; oiled(0, 0, 1) = 0; count(1) = 9999; street(0) = 9999");
        edge("ROUND without the bound of THE NIGHT",
            "lamp(5, 0, 0, 0); lamp(0, 0, 0, 0); 99 x nights(100); nights(99); set(0, 4, 0); set(1, 4, 1); order(0) = 0; round() = NONE",
            "set(0, 4, 2); order(0) = 1; round() = 1");
        edge("z as it is",
            "lamp(0, 10, 40, 20); behind(2, 2) = 23; behind(2, 2) = 23; nights(1); told(0, 2) = 28; behind(1, 2) = 23; seed(6)",
            "behind(1, 2) = 20");
        edge("BEHIND 0 NIGHTS",
            "lamp(0, 10, 40, 20); lamp(0, 10, 0, 20); nights(1); behind(0, 0) = 12; behind(0, 1) = 1; behind(0, 2) = 48",
            "behind(0, 3) = 1");
        edge("BEHIND 100 NIGHTS",
            "lamp(0, 10, 0, 0); lamp(5, 10, 7, 0); behind(100, 0) = 1200; behind(100, 1) = 100; behind(100, 2) = 7; behind(100, 3) = 0");
        edge("with the TEXTS as they are",
            "lamp(0, 10, 40, 20); lamp(5, 0, 0, 0); read \"burn 100\"; row(0, 0, 111); behind(1, 2) = 50; behind(2, 2) = 60",
            "oiled(0, 0, 0) = 0; oiled(0, 0, 1) = 0; mark(0, 0, 91); oiled(0, 0, 1) = 20; read \"burn o\" = 1; oiled(0, 0, 0) = 80",
            "oiled(0, 0, 1) = 0; behind(1, 2) = 56");
        edge("BEHIND n NIGHTS, of several first the lesser number",
            "lamp(5, 7, 0, 0); lamp(5, 3, 0, 0); set(0, 4, 9); behind(0, 3) = 1; behind(1, 3) = 0");
    }

    private static void roundAndFirst() {
        edge("ROUND: behind 1", "lamp(0, 0, 0, 0); lamp(5, 0, 0, 0); round() = 1");
        edge("ROUND of ten",
            "9 x lamp(0, 5, 0, 0); lamp(5, 5, 0, 0); round() = 1; set(9, 4, 0); round() = NONE; set(9, 4, 99); round() = 1; set(0, 4, 9)",
            "round() = 1");
        // Streets by lot that were looked for: THE ORDER is as now first behind 200 nights, and behind 201.
        edge("ROUND: behind 200", "seed(73784); deal(3); round() = 200");
        edge("ROUND: behind 201 is none",
            "seed(78820); deal(3); round() = NONE; nights(1); nights(100); nights(100); order(0) = 0; order(1) = 1; order(2) = 2");
        edge("ROUND by another LAW", "seed(78820); deal(3); rule(0, 2); round() = 1");
        // Both are dark, then number 0 goes out at 1 + 10 times POURED and number 1 at DAWN: the later one is first.
        String two = "rule(0, 1); lamp(3, 0, 0, 5); lamp(3, 0, 0, 99); ";
        edge("FIRST: the least POURED, 99 at most", two, "rule(2, 991); first(0, 2) = 99; rule(2, 981); first(0, 2) = 98; told(0, 3) = 5");
        edge("FIRST: none up to 99", two, "rule(2, 992); first(0, 2) = NONE; told(0, 3) = 5");
        edge("FIRST: 0 at least", "lamp(0, 0, 0, 50); first(0, 1) = 0; first(0, 20) = 0; told(0, 3) = 50");
        edge("FIRST: of several ENDED alike the lesser number is first",
            "lamp(5, 0, 0, 0); lamp(5, 0, 0, 0); first(0, 1) = 0; first(1, 1) = NONE");
    }

    private static void leastSparedLast() {
        edge("LEAST LAW: of several the least",
            "leastLaw(60, 0) = 0; lamp(0, 7, 0, 0); leastLaw(1, 0) = 0; leastLaw(60, 1) = 480; set(0, 1, 20); lamp(0, 10, 0, 0)",
            "leastLaw(1, 0) = 1; leastLaw(1, 1) = 22; rule(0, 2); leastLaw(1, 0) = 1; count(2) = 2");
        edge("LEAST LAW: each of the three",
            "lamp(0, 20, 0, 0); lamp(0, 10, 0, 0); lamp(0, 30, 0, 0); way() = 53; leastLaw(1, 0) = 2; leastLaw(1, 1) = 33",
            "leastLaw(60, 0) = 2; set(0, 1, 10); set(1, 1, 20); leastLaw(1, 0) = 0; leastLaw(1, 1) = 33; rule(0, 1); leastLaw(1, 0) = 0",
            "set(0, 4, 9); set(2, 4, 0); leastLaw(1, 0) = 1; count(2) = 1");
        edge("LEAST LAW: with WALKED that was", "lamp(0, 7, 0, 0); nights(2) = 16; leastLaw(3, 1) = 40");
        edge("SPARED: of several the least",
            "lamp(0, 0, 0, 0); lamp(0, 50, 0, 0); lamp(0, 50, 0, 0); lamp(0, 0, 0, 0); lamp(0, 0, 0, 0); set(3, 4, 2); set(2, 4, 3)",
            "way() = 205; spared(1, 0) = 1; spared(1, 1) = 104");
        edge("SPARED: the only one", "lamp(0, 9, 0, 0); nights(1) = 10; spared(60, 0) = 0; spared(60, 1) = 10");
        // The one that is spared is not on the way: 11 minutes each night, whichever of them is out first.
        edge("SPARED: not gone to", "lamp(0, 90, 5, 5); lamp(0, 10, 5, 5); spared(1, 0) = 0; spared(1, 1) = 11; spared(60, 1) = 660");
        // All go out at dawn, so that by their numbers 87 is walked each night: 1, 28, 57, 1. Without one of them lamp 2 or 3 (GLAZED)
        // is lit a minute sooner, goes out ahead of dawn, and the far end is first: 370, 590, 368 or 478 in three nights.
        edge("SPARED: one of the LAMPS, even where less is walked to all of them",
            "lamp(5, 0, 0, 0); lamp(5, 27, 0, 0); lamp(3, 83, 6, 33); lamp(3, 83, 7, 5); set(2, 4, 9); rule(2, 147)",
            "behind(3, 0) = 261; spared(3, 0) = 2; spared(3, 1) = 368; spared(1, 0) = 0; spared(1, 1) = 86");
        edge("LAST: of several the least",
            "lamp(5, 5, 5, 5); lamp(0, 5, 5, 5); last(1, 0) = 1; last(1, 1) = 1; last(2, 0) = 0; last(2, 1) = 1; last(3, 1) = 2",
            "last(60, 1) = 59");
        edge("LAST of ten",
            "9 x lamp(0, 5, 0, 0); lamp(5, 5, 0, 0); last(60, 0) = 9; last(60, 1) = 60; turns(9, 0); turns(0, 5); last(1, 0) = 9",
            "last(2, 0) = 0; last(60, 0) = 0; last(60, 1) = 59");
        edge("SPARED of ten", "9 x lamp(0, 5, 0, 0); lamp(5, 50, 0, 0); way() = 60; spared(1, 0) = 9; spared(60, 1) = 840");
        edge("LAST: the only one", "lamp(0, 5, 5, 5); last(60, 0) = 0; last(60, 1) = 60");
    }

    private static void oiled() {
        // GLAZED at 9: LIT at 10, goes out at 10 and 10 times OIL, 600 at most; then with what was POURED, at 60.
        String glazed = "lamp(3, 9, 5, 5); ";
        edge("OILED: the OIL 0 at least", glazed,
            "row(0, 1, -99999); oiled(0, 0, 0) = 0; oiled(0, 0, 1) = 100009; mark(0, 0, 15); oiled(0, 0, 0) = 0; mark(0, 0, 16)",
            "oiled(0, 0, 0) = 1");
        edge("OILED: the OIL 99 at most", glazed,
            "rule(2, 999); row(0, 1, 99999); set(0, 1, 0); oiled(0, 0, 0) = 99; oiled(0, 0, 1) = 99008; mark(0, 0, 985)",
            "oiled(0, 0, 0) = 98");
        edge("OILED: of several the least", glazed,
            "row(0, 0, 215); oiled(0, 0, 0) = 20; oiled(0, 0, 1) = 5; row(0, 0, 32767); oiled(0, 0, 0) = 59; oiled(0, 0, 1) = 32167");
        edge("OILED: signs left out", glazed,
            "row(0, 0, 217); oiled(0, 0, 0) = 21; oiled(0, 0, 1) = 3; row(0, 0, 217, 50); oiled(0, 0, 1) = 13");
        edge("OILED: places that are numbers", glazed,
            "row(0, 1, NONE, NONE); oiled(0, 0, 0) = 0; oiled(0, 0, 1) = 0; row(0, 1, 210, NONE, 61); oiled(0, 0, 0) = 20",
            "oiled(0, 0, 1) = 1");
        edge("OILED: place k is behind k and 1 NIGHTS", glazed,
            "row(0, 1, NONE, 60); oiled(0, 0, 0) = 0; oiled(0, 0, 1) = 0; row(0, 1, 60, NONE); oiled(0, 0, 0) = 5; oiled(0, 0, 1) = 0");
        edge("OILED by no places", glazed, "sheet(0, 0, 0); oiled(0, 0, 0) = 0; oiled(0, 0, 1) = 0");
        edge("OILED by 24 places",
            "lamp(5, 0, 0, 0); sheet(0, 1, 24); oiled(0, 0, 1) = 14400; mark(0, 23, 600); oiled(0, 0, 1) = 13800; oiled(0, 0, 0) = 0");
    }

    private static void manyTexts() {
        edge("TEXTS, 14 at most, numbered from 0",
            "read \"fee 1\" = 0; 12 x read \"fee 2\"; read \"fee 3\" = 13; read \"fee 4\" = FULL; count(5) = 14; fee() = 3; why(1) = 13",
            "textTold(14, 0) = BAD");
        edge("fourteen TEXTS are kept, and thought with",
            "lamp(0, 10, 40, 20); 13 x read \"fee 1\"; read \"burn 100\" = 13; behind(1, 2) = 50; keep() = 1; nights(1)",
            "told(0, 4) = 111; back() = 1; count(5) = 14; told(0, 7) = 100; tell(11); tell(111); check(1) = 0");
        edge("THE TAPE has 96 bytes at most",
            "7 x feed(0, 0, 0); feed(0, 0, 0) = 96; feed(0, 0, 0) = FULL; count(7) = 96; trim(85) = 85; feed(0, 0, 0) = FULL",
            "trim(84) = 84; feed(0, 0, 0) = 96");
        edge("THE TAPE is kept when it is full",
            "put \"fee 1+1+1+1+1+1+1+1+1+1+1+1+1+1+1+1+1+1+1+1+1+1+1+1+1+1+1+1+1+1+1+1+1+1+1+1+1+1+1+1+1+1+1+1+1+98\"; count(7) = 96",
            "feed(1, 2, 3) = FULL; text() = 0; fee() = 143; textTold(0, 1) = 46");
        edge("an act that reads it uses it up, whatever it answers: a TEXT",
            "read \"fee 1\" = 0; count(7) = 0; text() = -100; count(5) = 1");
        edge("an act that reads it uses it up, whatever it answers: a FAULT",
            "read \"fee 1 1\" = -106; count(7) = 0; text() = -100; count(5) = 0");
        edge("an act that reads it uses it up, whatever it answers: FULL",
            "14 x read \"fee 1\"; read \"fee 2\" = FULL; count(7) = 0; text() = -100; count(5) = 14");
        edge("of a KEY that TEXT counts that was told last",
            "fee() = 0; read \"fee 5\" = 0; read \"fine 6\" = 1; read \"fee 7\" = 2; read \"fee 8 8\" = -106; fee() = 7; why(1) = 2",
            "why(2) = 1; why(0) = NONE");
        edge("without a TEXT: WALKED, DARKS",
            "lamp(0, 4, 0, 9); fee() = 0; fine(0) = 0; nights(1); fee() = 5; fine(0) = 1; read \"fee 7\"; fine(0) = 1; read \"fine 8\"",
            "fee() = 7; fine(0) = 8");
    }

    private static void wordsAndSigns() {
        edge("NUMBER (1 to 4 digits)",
            "read \"fee 7\" = 0; fee() = 7; read \"fee 0000\" = 1; fee() = 0; read \"fee 9999\" = 2; fee() = 9999; read \"fee 0089\" = 3",
            "fee() = 89; read \"fee 10000\" = -104; read \"fee 00000\" = -104; read \"fee 1+12345\" = -106; read \"fee (99999)\" = -105",
            "fee() = 89");
        edge("NAMES, each one letter",
            "read \"fee nn\" = -104; read \"fee nw\" = -104; read \"burn ow\" = -105; read \"fine pd\" = -105; read \"fee n w\" = -106");
        edge("a row of letters a .. z",
            "read \"fee na\" = -104; read \"fee nz\" = -104; read \"feea 1\" = -100; read \"feez 1\" = -100; read \"fee n`\" = -105",
            "read \"fee n{\" = -105; read \"fee nZ\" = -105");
        edge("a row of digits",
            "read \"fee 1090\" = 0; fee() = 1090; read \"fee 1:\" = -105; read \"fee 1/\" = -106; read \"fee :\" = -104",
            "read \"fee 90909\" = -104");
        edge("any other byte is a sign by itself",
            "read \"fee \u0000\" = -104; read \"fee \u00ff\" = -104; read \"fee 1\u00e9\" = -105; read \"fee 1\u0080+1\" = -105",
            "read \"FEE 1\" = -100; read \"Fee 1\" = -100");
        edge("there may be blanks (byte 32)",
            "read \"   fee   (  1  +  ! n  )   \" = 0; fee() = 2; read \"fee\t1\" = -103; read \"fee 1\n\" = -105",
            "read \"\u00a0fee 1\" = -100; read \"fee\u001f1\" = -103; read \"fee!1\" = 1");
        edge("there need be none but between words", "read \"fee(1+!n)*(2)\" = 0; fee() = 4; read \"burn(o)\" = 1; read \"fine!p\" = 2");
        edge("a word right behind another one needs one",
            "read \"fee1\" = -103; read \"fee 1n\" = -105; read \"fee n1\" = -105; read \"burn9999\" = -104; read \"fine12345\" = -104",
            "read \"fee 1\" = 0");
    }

    private static void faults() {
        edge("FAULT: the first word",
            "read \"1\" = -100; read \"(\" = -100; read \" +\" = -101; read \"burns 1\" = -100; read \"bur 1\" = -100",
            "read \"curn 1\" = -100; read \"gee 1\" = -100; read \"dine 1\" = -100; read \"  fe 1\" = -102; read \"fines 1\" = -100",
            "read \"fin 1\" = -100; read \"fees 1\" = -100");
        edge("FAULT: where a PIECE is due",
            "read \"fee +1\" = -104; read \"fee 1+-1\" = -106; read \"fee 1*/2\" = -106; read \"fee ()\" = -105; read \"fee )\" = -104",
            "read \"fee 1<=2\" = -106; read \"fee 1&|2\" = -106; read \"fee !+1\" = -105; read \"fee fee\" = -104");
        edge("FAULT: where a sign is due",
            "read \"fee 1 1\" = -106; read \"fee n(1)\" = -105; read \"fee (1)(1)\" = -107; read \"fee (1)n\" = -107",
            "read \"fee 1!\" = -105; read \"fee 1!2\" = -105; read \"fee 1,2\" = -105; read \"fee 1)\" = -105; read \"fee (1))\" = -107");
        edge("FAULT: where a sign is due, behind a PIECE within others",
            "read \"fee 1+2 3\" = -108; read \"fee 1+2(3)\" = -107; read \"fee !1 2\" = -107; read \"fee !1(2)\" = -106",
            "read \"fee ((1)(2))\" = -108; read \"fee (1 2)\" = -107; read \"fee 1*2!\" = -107");
        edge("FAULT: one test a SUM at most",
            "read \"fee 1<2<3\" = -107; read \"fee 1=2>3\" = -107; read \"fee 1<2+3=4\" = -109; read \"fee (1<2<3)\" = -108",
            "read \"fee (1<2)<3\" = 0; read \"fee 1<2&2<3|3<4\" = 1");
        edge("FAULT: the end, if it comes too soon",
            "text() = -100; read \" \" = -101; read \"fee\" = -103; read \"fee   \" = -106; read \"fee 1+\" = -106",
            "read \"fee 1+  \" = -108; read \"fee (1\" = -106; read \"fee ((1) \" = -109; read \"fee !\" = -105; read \"fee 1|\" = -106");
        edge("FAULT: the end of a TAPE that is full",
            "8 x feed(538976288, 538976288, 538976288); text() = -196; feed(1717921056, 538976288, 538976288)",
            "7 x feed(538976288, 538976288, 538976288); text() = -196");
        edge("FAULT: the last byte of a TAPE that is full",
            "feed(1717921056, 824188960, 538976288); 6 x feed(538976288, 538976288, 538976288); feed(538976288, 538976288, 538976289)",
            "text() = -195");
        edge("FAULT: nothing comes of it",
            "read \"fee 1\" = 0; read \"burn 1 1\" = -107; read \"fine\" = -104; why(0) = NONE; why(1) = 0; why(2) = NONE; count(5) = 1",
            "textTold(1, 0) = BAD");
    }

    private static void nesting() {
        edge("the ninth ( that would be open within others",
            "read \"fee ((((((((7))))))))\" = 0; fee() = 7; read \"fee (((((((((7)))))))))\" = -112; read \"fee (((((((((\" = -112",
            "read \"fee ((((((((\" = -112");
        edge("( that are closed are not open",
            "read \"fee ((((((((1))))))))+((((((((2))))))))\" = 0; fee() = 3; read \"fee (((((((1)+(2))+(3))))))\" = 1; fee() = 6",
            "read \"fee (((((((1)+((2)))+(3))))))\" = 2; read \"fee (((((((1)+(((2))))+(3))))))\" = -116");
        edge("the ninth ! likewise",
            "read \"fee !!!!!!!!7\" = 0; fee() = 1; read \"fee !!!!!!!7\" = 1; fee() = 0; read \"fee !!!!!!!!!7\" = -112",
            "read \"fee !!!!!!!!!\" = -112; read \"fee !!!!!!!!\" = -112");
        edge("! within ( of ! is open within it",
            "read \"fee !!!!(!!!!7)\" = 0; fee() = 1; read \"fee !!!!(!!!!!7)\" = -113; read \"fee !!!!(1+!!!!(!7))\" = -116",
            "read \"fee !!!!(1+!!!!7)\" = 1");
        edge("! behind their PIECE are not open",
            "read \"fee !!!!!!!!1+!!!!!!!!0\" = 0; fee() = 1; read \"fee !!!!(!!!!1)+!!!!!!!!1\" = 1; fee() = 2",
            "read \"fee !!!!(!!!!(1)+!!!!!1)\" = -121");
        edge("each by itself",
            "read \"fee ((((((((!!!!!!!!7))))))))\" = 0; fee() = 1; read \"fee !(!(!(!(!(!(!(!(7))))))))\" = 1; fee() = 1",
            "read \"fee !(!(!(!(!(!(!(!((7)))))))))\" = -120; read \"fee !(!(!(!(!(!(!(!(!7))))))))\" = -120");
    }

    private static void whatTextsGive() {
        edge("Ints wrap",
            "read \"fee 9999*9999*9999\"; fee() = -1027349969; read \"fee 8192*8192*32\"; fee() = MIN; read \"fee 8192*8192*32-1\"",
            "fee() = MAX; read \"fee 8192*8192*32-1+1\"; fee() = MIN; read \"fee 8192*8192*64\"; fee() = 0",
            "read \"fee 8192*8192*32/(0-1)\"; fee() = MIN");
        edge("/ is 0 by 0",
            "read \"fee 7/0\"; fee() = 0; read \"fee 0/0\"; fee() = 0; read \"fee 7/n+5\"; fee() = 5; read \"fee (0-7)/0\"; fee() = 0",
            "read \"fee 7/0/0\"; fee() = 0");
        edge("tests give 1 or 0",
            "read \"fee 2<3\"; fee() = 1; read \"fee 3<3\"; fee() = 0; read \"fee 3=3\"; fee() = 1; read \"fee 3=4\"; fee() = 0",
            "read \"fee 3>3\"; fee() = 0; read \"fee 4>3\"; fee() = 1; read \"fee 0-1<0\"; fee() = 1; read \"fee 8192*8192*32<1\"",
            "fee() = 1; read \"fee 8192*8192*32-1>1\"; fee() = 1");
        edge("& gives 1 or 0; what is not 0 is true",
            "read \"fee 2&4\"; fee() = 1; read \"fee 2&0\"; fee() = 0; read \"fee 0&2\"; fee() = 0; read \"fee 0&0\"; fee() = 0",
            "read \"fee (0-1)&(0-2)\"; fee() = 1");
        edge("| gives 1 or 0; what is not 0 is true",
            "read \"fee 2|4\"; fee() = 1; read \"fee 2|0\"; fee() = 1; read \"fee 0|2\"; fee() = 1; read \"fee 0|0\"; fee() = 0",
            "read \"fee 0|(0-2)\"; fee() = 1");
        edge("! gives 1 or 0; what is not 0 is true",
            "read \"fee !0\"; fee() = 1; read \"fee !1\"; fee() = 0; read \"fee !9\"; fee() = 0; read \"fee !(0-1)\"; fee() = 0",
            "read \"fee !!9\"; fee() = 1");
        edge("E, the loosest first",
            "read \"fee 1|0&0\"; fee() = 1; read \"fee 0&1|1\"; fee() = 1; read \"fee 0&0=0\"; fee() = 0; read \"fee 1=0+1\"; fee() = 1",
            "read \"fee 1+2*3\"; fee() = 7; read \"fee !1+5\"; fee() = 5; read \"fee !1*5\"; fee() = 0; read \"fee 9-4-3\"; fee() = 2",
            "read \"fee 9-2*3\"; fee() = 3; read \"fee 9-8/4\"; fee() = 7; read \"fee 2*3-1+9/3\"; fee() = 8; read \"fee 40/4/2*3\"",
            "fee() = 15");
    }

    private static void names() {
        edge("NAMES of burn",
            "lamp(0, 11, 5, 7); rule(1, 3); read \"burn o*100+w*1000+s\"; told(0, 7) = 3511; read \"burn n\" = -105",
            "read \"burn p\" = -105; read \"burn d\" = -105");
        edge("NAMES of fee",
            "lamp(0, 11, 5, 7); nights(3); read \"fee n*100+w\"; fee() = 336; read \"fee o\" = -104; read \"fee s\" = -104",
            "read \"fee p\" = -104; read \"fee d\" = -104");
        edge("NAMES of fine",
            "lamp(0, 11, 0, 0); nights(3); set(0, 3, 9); read \"fine p*100+d\"; fine(0) = 903; read \"fine o\" = -105",
            "read \"fine w\" = -105; read \"fine s\" = -105; read \"fine n\" = -105");
        edge("how many NUMBERS and NAMES it has",
            "read \"fee n\" = 0; textTold(0, 1) = 1; read \"fee 0007\" = 1; textTold(1, 1) = 1; read \"burn(o+w)*s/10-!12\" = 2",
            "textTold(2, 1) = 5; textTold(2, 0) = 0; textTold(1, 0) = 1");
    }

    private static void sheetsAndSlots() {
        edge("SHEETS 0 .. 3",
            "sheet(-1, 0, 1) = BAD; sheet(4, 0, 1) = BAD; sheet(0, 0, 1) = 1; sheet(3, 0, 1) = 1; mark(3, 0, 5) = 1; mark(0, 0, 5) = 1",
            "mark(4, 0, 5) = BAD");
        edge("0 to 24 places",
            "sheet(0, 0, 0) = 0; mark(0, 0, 1) = INDEX; sheet(0, 0, 24) = 24; mark(0, 23, 1) = 1; mark(0, 24, 1) = INDEX",
            "sheet(0, 0, 25) = BAD; sheet(0, 1, 25) = BAD; sheet(0, 1, 24) = 24; mark(0, 23, 1) = 1");
        edge("MISSING (at first)",
            "reads(0) = NOTHING; reads(1) = NOTHING; reads(2) = NOTHING; reads(3) = NOTHING; sheet(2, 1, 0); reads(2) = NONE",
            "sheet(2, -1, 0) = 0; reads(2) = NOTHING");
        edge("A place of floats may be NO NUMBER",
            "sheet(0, 1, 2); mark(0, 1, NONE) = 1; lay(0, 2, 0); item(0, 0) = 0; item(0, 1) = KIND; sheet(0, 0, 2)",
            "mark(0, 1, NONE) = KIND; lay(0, 2, 0); item(0, 1) = 0");
        edge("SLOTS 0 .. 4 hold nothing (at first)",
            "rest(0, 1) = NOTHING; rest(4, 1) = NOTHING; rest(5, 1) = BAD; rest(-1, 1) = BAD; lay(4, 3, 5) = 0; rest(4, 9) = 5",
            "lay(5, 3, 5) = BAD; lay(-1, 3, 5) = BAD");
        edge("a LAMP (as it is then, for good)",
            "lamp(1, 10, 0, 0); lay(0, 1, 0); keep(); set(0, 1, 50); turns(0, 3); ask(0, 0) = 16; ask(0, 3) = KIND; back()",
            "ask(0, 1) = 16; lay(1, 1, 0); nights(2); ask(1, 1) = 16");
        edge("a LAMP for good, where there is none any more",
            "keep(); lamp(1, 10, 0, 0); lay(0, 1, 0); back() = 0; ask(0, 1) = 16; lay(1, 1, 0) = BAD");
        edge("a SHEET (a row of its own, as it was then)",
            "row(0, 0, 5, 6); lay(0, 2, 0); mark(0, 0, 7); item(0, 0) = 5; sheet(0, 1, 1); item(0, 1) = 6; sheet(0, -1, 0)",
            "item(0, 1) = 6; item(0, 2) = INDEX; lay(1, 2, 0) = NOTHING");
        edge("SIZE: a number of places is below 0", "sheet(0, 0, -1) = SIZE; sheet(0, 1, MIN) = SIZE; reads(0) = NOTHING");
    }

    private static void image() {
        edge("AN IMAGE keeps all",
            "scene; keep() = 5; told(2, 2) = 0; count(8) = 662824084; deal(5); nights(9); rule(0, 2); rule(1, 1); rule(2, 60); trim(0)",
            "read \"fee 1\"; turns(0, 5); back() = 5; count(0) = 5; count(1) = 3; count(2) = 1; count(3) = 7; count(4) = 500",
            "count(5) = 3; why(1) = 1; told(0, 0) = 0; told(2, 2) = 0; count(8) = 662824084");
        edge("AN IMAGE keeps no SHEETS, SLOTS, numbers that wait, TAPE",
            "keep(); row(0, 0, 5); lay(0, 3, 9); tell(1); put \"fee 1\"; back() = 0; count(6) = 1; count(7) = 5; mark(0, 0, 6) = 1",
            "rest(0, 5) = 4; sheet(0, -1, 0); lay(0, 0, 0); check(1); trim(0); back(); count(6) = 0; count(7) = 0; reads(0) = NOTHING",
            "rest(0, 5) = NOTHING");
        edge("all can become as it is (again and again)",
            "lamp(0, 0, 5, 5); keep(); nights(1); back() = 1; count(1) = 0; nights(2); back() = 1; count(1) = 0; told(0, 2) = 5",
            "count(8) = 1");
        edge("AN IMAGE is kept anew",
            "lamp(0, 0, 5, 5); keep() = 1; nights(1); keep() = 1; nights(1); back() = 1; count(1) = 1; lamp(0, 0, 0, 0); back() = 1",
            "keep() = 1");
        edge("there is no IMAGE", "back() = NO; check(1) = NO; keep() = 0; back() = 0; check(1) = 1");
    }

    private static void nightsTold() {
        String street = "lamp(0, 10, 40, 20); lamp(5, 10, 0, 0); keep(); ";
        edge("THE NIGHTS TOLD are by THE IMAGE, not as it is now", street,
            "nights(7); rule(0, 1); deal(3); tell(12); tell(931); tell(24); tell(863); check(2) = 0; count(6) = 0");
        edge("THE NIGHTS TOLD are by THE IMAGE's TEXTS",
            "lamp(0, 10, 40, 20); read \"burn 50\"; keep(); read \"burn 70\"; tell(11); tell(61); check(1) = 0; nights(1)",
            "told(0, 4) = 81; back(); nights(1); told(0, 4) = 61");
        edge("WALKED, behind each",
            "lamp(0, 10, 40, 20); lamp(5, 10, 0, 0); nights(1); keep(); nights(5); tell(24); tell(863); check(1) = 0; tell(12)",
            "check(1) = 1");
        edge("ENDED of all LAMPS, together, without LAMPS",
            "keep(); tell(0); tell(0); tell(0); tell(0); check(2) = 0; tell(0); tell(1); check(1) = 2");
        edge("fewer, if THE NIGHT would be above 9999",
            "lamp(0, 0, 0, 0); 99 x nights(100); nights(98); keep(); tell(9999); tell(1); check(30) = 0; tell(9999); tell(1)",
            "tell(10000); tell(1); check(2) = 3; check(1) = 1; nights(1); keep(); check(1) = 0; check(30) = 0; tell(10000); check(1) = 1");
    }
}
