/**
 * Lamps of a street that are lit each evening in the order in which they went out the night before.
 * The words in capitals are those of the document.
 *
 * What is needed again and again (a second street to think in, the reader, the rows) is made once, in the constructor:
 * all calls of a run share one room, and only text() makes anything later on.
 */
public final class LampOrder {
    public static final int BAD = -1000000001, NO = -1000000002, FULL = -1000000003, NONE = -1000000005, NOTHING = -1000000011, KIND = -1000000012, INDEX = -1000000013, SIZE = -1000000014;

    private static final int LAMPS_MOST = 10, TEXTS_MOST = 14, TAPE_MOST = 96, SHEETS = 4, SLOTS = 5, WAIT_MOST = 60;
    private static final int PLACE_MOST = 99, OIL_MOST = 999, POURED_MOST = 99, MINUTE_MOST = 9999, NIGHT_MOST = 9999;
    private static final int NOBODY = -1;

    private final Street now = new Street();
    private final Street image = new Street();
    private final Street thought = new Street();
    private boolean imageKept;
    private final TextReader reader = new TextReader();
    private final Sheet[] sheets = new Sheet[SHEETS];
    private final Slot[] slots = new Slot[SLOTS];
    private final int[] waiting = new int[WAIT_MOST];
    private int waitingCount;
    private final int[] lastCounts = new int[LAMPS_MOST];

    public LampOrder() {
        for (int i = 0; i < SHEETS; i++) {
            sheets[i] = new Sheet();
        }
        for (int i = 0; i < SLOTS; i++) {
            slots[i] = new Slot();
        }
    }

    // ---- lamps

    public int lamp(int kind, int place, int oil, int poured) {
        if (!Lamp.isKind(kind) || !within(place, 0, PLACE_MOST) || !within(oil, 0, OIL_MOST) || !within(poured, 0, POURED_MOST)) {
            return BAD;
        }
        if (now.lampCount >= LAMPS_MOST) {
            return FULL;
        }
        now.addLamp(kind, place, oil, poured);
        return now.lampCount - 1;
    }

    public int told(int lamp, int what) {
        if (!now.hasLamp(lamp)) {
            return BAD;
        }
        Lamp one = now.lamps[lamp];
        switch (what) {
            case 7: return one.burns(now.burnAsLamp(one));
            case 8: return one.worth();
            default: return within(what, 0, 6) ? one.part(what) : BAD;
        }
    }

    public int drinks(int lamp, int m) {
        return now.hasLamp(lamp) && within(m, 0, 999) ? now.lamps[lamp].drunkIn(m) : BAD;
    }

    public int as(int lamp, int kind) {
        if (!now.hasLamp(lamp) || !Lamp.isKind(kind)) {
            return BAD;
        }
        return now.lamps[lamp].isOf(kind) ? now.lamps[lamp].place : KIND;
    }

    public int turns(int lamp, int kind) {
        if (!now.hasLamp(lamp) || !Lamp.isKind(kind)) {
            return BAD;
        }
        int was = now.lamps[lamp].kind;
        now.lamps[lamp].kind = kind;
        return was;
    }

    public int set(int lamp, int what, int v) {
        if (!now.hasLamp(lamp) || !within(what, Lamp.PLACE, Lamp.ENDED) || !within(v, 0, mostOf(what))) {
            return BAD;
        }
        Lamp one = now.lamps[lamp];
        int was = one.part(what);
        switch (what) {
            case Lamp.PLACE: one.place = v; break;
            case Lamp.OIL: one.oil = v; break;
            case Lamp.POURED: one.poured = v; break;
            default: one.ended = v; break;
        }
        return was;
    }

    public int deal(int n) {
        if (!within(n, 1, LAMPS_MOST)) {
            return BAD;
        }
        int come = Math.min(n, LAMPS_MOST - now.lampCount);
        for (int i = 0; i < come; i++) {
            int kind = now.drawn() % Lamp.KINDS;
            int place = now.drawn() % 60;
            int oil = now.drawn() % 80;
            now.addLamp(kind, place, oil, now.drawn() % 40);
        }
        return come;
    }

    public int seed(int v) {
        int was = now.z;
        now.z = v;
        return was;
    }

    // ---- nights

    public int rule(int what, int v) {
        int was;
        if (what == 0 && within(v, 0, 2)) {
            was = now.law;
            now.law = v;
        } else if (what == 1 && within(v, 0, 9)) {
            was = now.wind;
            now.wind = v;
        } else if (what == 2 && within(v, 60, 999)) {
            was = now.dawn;
            now.dawn = v;
        } else {
            was = BAD;
        }
        return was;
    }

    public int order(int i) {
        if (!now.hasLamp(i)) {
            return BAD;
        }
        now.lineUp();
        return now.line[i];
    }

    public int nights(int n) {
        if (!within(n, 1, 100)) {
            return BAD;
        }
        int before = now.walked;
        now.passNights(Math.min(n, NIGHT_MOST - now.night), NOBODY);
        return now.walked - before;
    }

    public int way() {
        return now.minutesTonight();
    }

    public int dark(int m) {
        return within(m, 0, MINUTE_MOST) ? now.darkAt(m) : BAD;
    }

    public int street(int what) {
        switch (what) {
            case 0: return now.walked;
            case 1: return now.sumOf(Lamp.DARKS);
            case 2: return now.sumOf(Lamp.OIL);
            case 3: return now.sumOf(Lamp.POURED);
            default: return BAD;
        }
    }

    // ---- what will be

    public int behind(int n, int what) {
        if (!within(n, 0, 100) || !within(what, 0, 3)) {
            return BAD;
        }
        thought.becomes(now);
        thought.passNights(n, NOBODY);
        switch (what) {
            case 0: return thought.walked;
            case 1: return thought.sumOf(Lamp.DARKS);
            case 2: return thought.sumOf(Lamp.OIL);
            default: return thought.foremost();
        }
    }

    public int round() {
        now.lineUp();
        thought.becomes(now);
        for (int behind = 1; behind <= 200; behind++) {
            thought.passNight(NOBODY);
            thought.lineUp();
            if (thought.hasLineOf(now)) {
                return behind;
            }
        }
        return NONE;
    }

    public int first(int lamp, int n) {
        if (!now.hasLamp(lamp) || !within(n, 1, 20)) {
            return BAD;
        }
        for (int poured = 0; poured <= POURED_MOST; poured++) {
            thought.becomes(now);
            thought.lamps[lamp].poured = poured;
            thought.passNights(n, NOBODY);
            if (thought.foremost() == lamp) {
                return poured;
            }
        }
        return NONE;
    }

    public int leastLaw(int n, int what) {
        if (!within(n, 1, 60) || !within(what, 0, 1)) {
            return BAD;
        }
        int best = 0;
        int least = Integer.MAX_VALUE;
        for (int law = 0; law <= 2; law++) {
            thought.becomes(now);
            thought.law = law;
            thought.passNights(n, NOBODY);
            if (thought.walked < least) {
                best = law;
                least = thought.walked;
            }
        }
        return what == 0 ? best : least;
    }

    public int spared(int n, int what) {
        if (!within(n, 1, 60) || !within(what, 0, 1)) {
            return BAD;
        }
        if (now.lampCount == 0) {
            return NONE;
        }
        int best = 0;
        int least = Integer.MAX_VALUE;
        for (int lamp = 0; lamp < now.lampCount; lamp++) {
            thought.becomes(now);
            thought.passNights(n, lamp);
            if (thought.walked < least) {
                best = lamp;
                least = thought.walked;
            }
        }
        return what == 0 ? best : least;
    }

    public int last(int n, int what) {
        if (!within(n, 1, 60) || !within(what, 0, 1)) {
            return BAD;
        }
        if (now.lampCount == 0) {
            return NONE;
        }
        countLasts(n);
        int best = 0;
        for (int lamp = 1; lamp < now.lampCount; lamp++) {
            if (lastCounts[lamp] > lastCounts[best]) {
                best = lamp;
            }
        }
        return what == 0 ? best : lastCounts[best];
    }

    public int oiled(int sheet, int lamp, int what) {
        if (!isSheet(sheet) || !now.hasLamp(lamp) || !within(what, 0, 1)) {
            return BAD;
        }
        if (sheets[sheet].isMissing()) {
            return NOTHING;
        }
        int best = 0;
        int least = Integer.MAX_VALUE;
        for (int oil = 0; oil <= 99; oil++) {
            int together = differences(sheets[sheet], lamp, oil);
            if (together < least) {
                best = oil;
                least = together;
            }
        }
        return what == 0 ? best : least;
    }

    public int fee() {
        Text text = now.textThatCounts(Text.FEE);
        return text == null ? now.walked : text.gives(now.night, now.walked, 0);
    }

    public int fine(int lamp) {
        if (!now.hasLamp(lamp)) {
            return BAD;
        }
        Lamp one = now.lamps[lamp];
        Text text = now.textThatCounts(Text.FINE);
        return text == null ? one.darks : text.gives(one.poured, one.darks, 0);
    }

    // ---- texts

    public int feed(int a, int b, int c) {
        if (reader.length + 12 > TAPE_MOST) {
            return FULL;
        }
        reader.addBytes(a);
        reader.addBytes(b);
        reader.addBytes(c);
        return reader.length;
    }

    public int trim(int n) {
        if (!within(n, 0, reader.length)) {
            return BAD;
        }
        reader.length = n;
        return n;
    }

    public int text() {
        boolean good = reader.readText();
        reader.length = 0;
        if (!good) {
            return -100 - reader.start;
        }
        if (now.textCount >= TEXTS_MOST) {
            return FULL;
        }
        now.addText(reader.readOne());
        return now.textCount - 1;
    }

    public int textTold(int text, int what) {
        if (!now.hasText(text) || !within(what, 0, 1)) {
            return BAD;
        }
        return what == 0 ? now.texts[text].key : now.texts[text].operands;
    }

    public int why(int key) {
        return Text.isKey(key) ? now.counting[key] : BAD;
    }

    // ---- sheets, slots

    public int sheet(int sheet, int sort, int n) {
        if (!isSheet(sheet) || !within(sort, Sheet.MISSING, Sheet.FLOATS)) {
            return BAD;
        }
        if (sort == Sheet.MISSING) {
            sheets[sheet].clear(Sheet.MISSING, 0);
            return 0;
        }
        if (n > Sheet.PLACES_MOST) {
            return BAD;
        }
        if (n < 0) {
            return SIZE;
        }
        sheets[sheet].clear(sort, n);
        return n;
    }

    public int mark(int sheet, int place, int v) {
        if (!isSheet(sheet)) {
            return BAD;
        }
        Sheet row = sheets[sheet];
        if (row.isMissing()) {
            return NOTHING;
        }
        if (!row.hasPlace(place)) {
            return INDEX;
        }
        if (row.sort == Sheet.SHORTS) {
            if (v == NONE) {
                return KIND;
            }
            row.places[place] = (short) v;
            return 1;
        }
        if (v != NONE && !within(v, -99999, 99999)) {
            return BAD;
        }
        row.places[place] = v;
        return 1;
    }

    public int pour(int sheet) {
        if (!isSheet(sheet)) {
            return BAD;
        }
        Sheet row = sheets[sheet];
        if (row.isMissing()) {
            return NOTHING;
        }
        int otherwise = 0;
        for (int i = 0; i < now.lampCount; i++) {
            if (row.hasNumber(i)) {
                int poured = held(row.places[i], 0, POURED_MOST);
                if (poured != now.lamps[i].poured) {
                    otherwise++;
                }
                now.lamps[i].poured = poured;
            }
        }
        return otherwise;
    }

    public int reads(int sheet) {
        if (!isSheet(sheet)) {
            return BAD;
        }
        Sheet row = sheets[sheet];
        if (row.isMissing()) {
            return NOTHING;
        }
        now.lineUp();
        for (int i = 0; i < row.size; i++) {
            boolean right = now.hasLamp(i) && row.places[i] == now.line[i];
            if (row.hasNumber(i) && !right) {
                return i;
            }
        }
        return NONE;
    }

    public int copy(int from, int place, int to, int at, int many) {
        if (!isSheet(from) || !isSheet(to)) {
            return BAD;
        }
        Sheet source = sheets[from];
        Sheet target = sheets[to];
        if (source.isMissing() || target.isMissing()) {
            return NOTHING;
        }
        if (source.sort != target.sort) {
            return KIND;
        }
        if (!source.hasPlaces(place, many) || !target.hasPlaces(at, many)) {
            return INDEX;
        }
        System.arraycopy(source.places, place, target.places, at, many);
        return many;
    }

    public int lay(int slot, int thing, int k) {
        if (!isSlot(slot) || !within(thing, Slot.EMPTY, Slot.NUMBER) || !canLay(thing, k)) {
            return BAD;
        }
        if (thing == Slot.SHEET && sheets[k].isMissing()) {
            return NOTHING;
        }
        Slot holder = slots[slot];
        int before = holder.thing;
        holder.thing = thing;
        if (thing == Slot.LAMP) {
            holder.lamp.becomes(now.lamps[k]);
        } else if (thing == Slot.SHEET) {
            holder.row.becomes(sheets[k]);
        } else {
            holder.number = k;
        }
        return before;
    }

    public int ask(int slot, int kind) {
        if (!isSlot(slot) || !Lamp.isKind(kind)) {
            return BAD;
        }
        Slot holder = slots[slot];
        if (holder.thing == Slot.EMPTY) {
            return NOTHING;
        }
        return holder.thing == Slot.LAMP && holder.lamp.isOf(kind) ? holder.lamp.worth() : KIND;
    }

    public int item(int slot, int place) {
        if (!isSlot(slot)) {
            return BAD;
        }
        Slot holder = slots[slot];
        if (holder.thing == Slot.EMPTY) {
            return NOTHING;
        }
        if (holder.thing != Slot.SHEET) {
            return KIND;
        }
        if (!holder.row.hasPlace(place)) {
            return INDEX;
        }
        return holder.row.hasNumber(place) ? holder.row.places[place] : KIND;
    }

    public int rest(int slot, int n) {
        if (!isSlot(slot)) {
            return BAD;
        }
        Slot holder = slots[slot];
        if (holder.thing == Slot.EMPTY) {
            return NOTHING;
        }
        if (holder.thing != Slot.NUMBER) {
            return KIND;
        }
        return n == 0 ? NO : holder.number % n;
    }

    // ---- rows, images

    public int tell(int v) {
        if (waitingCount >= WAIT_MOST) {
            return FULL;
        }
        waiting[waitingCount] = v;
        waitingCount++;
        return waitingCount;
    }

    public int check(int n) {
        int many = waitingCount;
        waitingCount = 0;
        if (!within(n, 1, 30)) {
            return BAD;
        }
        if (!imageKept) {
            return NO;
        }
        thought.becomes(image);
        int nightCount = Math.min(n, NIGHT_MOST - image.night);
        int right = 0;
        for (int i = 0; i < nightCount; i++) {
            thought.passNight(NOBODY);
            if (!waitsAt(right, many, thought.walked)) {
                return 1 + right;
            }
            right++;
            if (!waitsAt(right, many, thought.sumOf(Lamp.ENDED))) {
                return 1 + right;
            }
            right++;
        }
        return right == many ? 0 : 1 + right;
    }

    public int keep() {
        image.becomes(now);
        imageKept = true;
        return image.lampCount;
    }

    public int back() {
        if (!imageKept) {
            return NO;
        }
        now.becomes(image);
        return now.lampCount;
    }

    public int count(int what) {
        switch (what) {
            case 0: return now.lampCount;
            case 1: return now.night;
            case 2: return now.law;
            case 3: return now.wind;
            case 4: return now.dawn;
            case 5: return now.textCount;
            case 6: return waitingCount;
            case 7: return reader.length;
            case 8: return now.z;
            default: return BAD;
        }
    }

    private static boolean within(int v, int least, int most) {
        return least <= v && v <= most;
    }

    private static int held(int v, int least, int most) {
        return Math.max(least, Math.min(most, v));
    }

    private static boolean isSheet(int sheet) {
        return within(sheet, 0, SHEETS - 1);
    }

    private static boolean isSlot(int slot) {
        return within(slot, 0, SLOTS - 1);
    }

    private static int mostOf(int part) {
        switch (part) {
            case Lamp.PLACE: return PLACE_MOST;
            case Lamp.OIL: return OIL_MOST;
            case Lamp.POURED: return POURED_MOST;
            default: return MINUTE_MOST;
        }
    }

    private boolean canLay(int thing, int k) {
        switch (thing) {
            case Slot.LAMP: return now.hasLamp(k);
            case Slot.SHEET: return isSheet(k);
            default: return true;
        }
    }

    private void countLasts(int n) {
        for (int i = 0; i < LAMPS_MOST; i++) {
            lastCounts[i] = 0;
        }
        thought.becomes(now);
        for (int i = 0; i < n; i++) {
            thought.passNight(NOBODY);
            lastCounts[thought.hindmostWalked()]++;
        }
    }

    private int differences(Sheet row, int lamp, int oil) {
        thought.becomes(now);
        thought.lamps[lamp].oil = oil;
        int together = 0;
        for (int k = 0; k < row.size; k++) {
            thought.passNight(NOBODY);
            if (row.hasNumber(k)) {
                together += Math.abs(thought.lamps[lamp].ended - row.places[k]);
            }
        }
        return together;
    }

    private boolean waitsAt(int place, int many, int v) {
        return place < many && place < WAIT_MOST && waiting[place] == v;
    }

    /** One LAMP; what its KIND does with the wind and the oil. */
    private static final class Lamp {
        static final int SHELTERED = 1, OPEN = 2, GLAZED = 3, LEAKY = 4, CANAL = 5, KINDS = 6;
        private static final int[] ABOVE = {-1, 0, 0, 1, 2, 0};
        /** Parts of a LAMP, as told() numbers them. */
        static final int PLACE = 1, OIL = 2, POURED = 3, ENDED = 4, LIT = 5, DARKS = 6;

        int kind;
        int place;
        int oil;
        int poured;
        int ended;
        int lit;
        int darks;

        static boolean isKind(int kind) {
            return 0 <= kind && kind < KINDS;
        }

        void becomes(Lamp other) {
            kind = other.kind;
            place = other.place;
            oil = other.oil;
            poured = other.poured;
            ended = other.ended;
            lit = other.lit;
            darks = other.darks;
        }

        int part(int what) {
            switch (what) {
                case PLACE: return place;
                case OIL: return oil;
                case POURED: return poured;
                case ENDED: return ended;
                case LIT: return lit;
                case DARKS: return darks;
                default: return kind;
            }
        }

        boolean isOf(int wanted) {
            int one = kind;
            for (int i = 0; i < KINDS && isKind(one) && one != wanted; i++) {
                one = ABOVE[one];
            }
            return one == wanted;
        }

        int burns(int asLamp) {
            int asOpen = Math.max(asLamp - 20, 0);
            switch (kind) {
                case SHELTERED: return (oil * 10 + asLamp) / 2;
                case GLAZED: return oil * 10;
                case OPEN: return asOpen;
                case LEAKY: return asOpen / 2;
                case CANAL: return MINUTE_MOST;
                default: return asLamp;
            }
        }

        int drunkIn(int minutes) {
            int asLamp = Math.min(minutes / 10, oil);
            switch (kind) {
                case LEAKY: return Math.min(asLamp + 5, oil);
                case CANAL: return 0;
                default: return asLamp;
            }
        }

        int worth() {
            int asSheltered = place + 6;
            int asOpen = 99 - place;
            switch (kind) {
                case SHELTERED: return asSheltered;
                case GLAZED: return asSheltered * 2;
                case OPEN: return asOpen;
                case LEAKY: return asOpen - 4;
                case CANAL: return 3;
                default: return place;
            }
        }

        boolean isDry() {
            return oil == 0 && kind != CANAL;
        }
    }

    /** All that AN IMAGE keeps: the street as it is, was kept, or is thought to become. */
    private static final class Street {
        final Lamp[] lamps = new Lamp[LAMPS_MOST];
        int lampCount;
        /** THE ORDER, as it was when lineUp() was called last. */
        final int[] line = new int[LAMPS_MOST];
        int law;
        int wind;
        int dawn = 600;
        int walked;
        int night;
        int z = 1;
        final Text[] texts = new Text[TEXTS_MOST];
        int textCount;
        /** By KEY the number of the TEXT that counts, or NONE. */
        final int[] counting = {NONE, NONE, NONE};

        Street() {
            for (int i = 0; i < LAMPS_MOST; i++) {
                lamps[i] = new Lamp();
            }
        }

        void becomes(Street other) {
            lampCount = other.lampCount;
            for (int i = 0; i < lampCount; i++) {
                lamps[i].becomes(other.lamps[i]);
            }
            law = other.law;
            wind = other.wind;
            dawn = other.dawn;
            walked = other.walked;
            night = other.night;
            z = other.z;
            textCount = other.textCount;
            for (int i = 0; i < textCount; i++) {
                texts[i] = other.texts[i];
            }
            System.arraycopy(other.counting, 0, counting, 0, Text.KEYS);
        }

        boolean hasLamp(int lamp) {
            return 0 <= lamp && lamp < lampCount;
        }

        void addLamp(int kind, int place, int oil, int poured) {
            if (lampCount >= LAMPS_MOST) {
                return;
            }
            Lamp lamp = lamps[lampCount];
            lamp.kind = kind;
            lamp.place = place;
            lamp.oil = oil;
            lamp.poured = poured;
            lamp.ended = lampCount;
            lamp.lit = 0;
            lamp.darks = 0;
            lampCount++;
        }

        boolean hasText(int text) {
            return 0 <= text && text < textCount;
        }

        void addText(Text text) {
            if (textCount >= TEXTS_MOST || !Text.isKey(text.key)) {
                return;
            }
            texts[textCount] = text;
            counting[text.key] = textCount;
            textCount++;
        }

        Text textThatCounts(int key) {
            return Text.isKey(key) && hasText(counting[key]) ? texts[counting[key]] : null;
        }

        int drawn() {
            z = z * 1103515245 + 12345;
            return z >>> 8;
        }

        void lineUp() {
            for (int i = 0; i < lampCount; i++) {
                int rank = rankOf(lamps[i]);
                int at = i;
                for (; at > 0 && rank < rankOf(lamps[line[at - 1]]); at--) {
                    line[at] = line[at - 1];
                }
                line[at] = i;
            }
        }

        /** The lesser is ahead; of equal ones lineUp() leaves the lesser number ahead. */
        private int rankOf(Lamp lamp) {
            switch (law) {
                case 0: return lamp.ended;
                case 1: return -lamp.ended;
                default: return lamp.place;
            }
        }

        boolean hasLineOf(Street other) {
            if (lampCount != other.lampCount) {
                return false;
            }
            for (int i = 0; i < lampCount; i++) {
                if (line[i] != other.line[i]) {
                    return false;
                }
            }
            return true;
        }

        int foremost() {
            if (lampCount == 0) {
                return NONE;
            }
            lineUp();
            return line[0];
        }

        /** Last in THE ORDER of the night that passed last: passNight() leaves that night's line. Not for a street without LAMPS. */
        int hindmostWalked() {
            return lampCount == 0 ? 0 : line[lampCount - 1];
        }

        int minutesTonight() {
            lineUp();
            int minute = 0;
            int at = 0;
            for (int i = 0; i < lampCount; i++) {
                int place = lamps[line[i]].place;
                minute += Math.abs(place - at) + 1;
                at = place;
            }
            return minute;
        }

        void passNights(int n, int spared) {
            for (int i = 0; i < n; i++) {
                passNight(spared);
            }
        }

        /** The LAMP that is spared is neither lit nor poured for; NOBODY spares none. */
        void passNight(int spared) {
            wind = drawn() % 10;
            // THE ORDER stands before the first is lit: lighting changes ENDED, by which it goes.
            lineUp();
            int minute = 0;
            int at = 0;
            for (int i = 0; i < lampCount; i++) {
                if (line[i] != spared) {
                    Lamp lamp = lamps[line[i]];
                    minute += Math.abs(lamp.place - at) + 1;
                    at = lamp.place;
                    light(lamp, minute);
                }
            }
            walked += minute;
            for (int i = 0; i < lampCount; i++) {
                if (i != spared) {
                    lamps[i].oil = Math.min(lamps[i].oil + lamps[i].poured, OIL_MOST);
                }
            }
            night++;
        }

        private void light(Lamp lamp, int minute) {
            int burns = lamp.burns(burnAsLamp(lamp));
            if (lamp.isDry()) {
                lamp.darks++;
            }
            lamp.lit = minute;
            lamp.ended = Math.max(minute, Math.min(minute + burns, dawn));
            lamp.oil -= lamp.drunkIn(lamp.ended - minute);
        }

        int burnAsLamp(Lamp lamp) {
            Text text = textThatCounts(Text.BURN);
            int minutes = text == null ? lamp.oil * 10 - wind * lamp.oil / 2 : text.gives(lamp.oil, wind, lamp.place);
            return held(minutes, 0, MINUTE_MOST);
        }

        int darkAt(int minute) {
            int bits = 0;
            for (int i = 0; i < lampCount; i++) {
                if (lamps[i].lit > minute || lamps[i].ended <= minute) {
                    bits |= 1 << i;
                }
            }
            return bits;
        }

        /** A part of all LAMPS, together. */
        int sumOf(int part) {
            int together = 0;
            for (int i = 0; i < lampCount; i++) {
                together += lamps[i].part(part);
            }
            return together;
        }
    }

    /**
     * A TEXT that was read, as steps of a stack machine: operands come ahead of what works on them.
     * So it is worked out without recursion, and without making anything.
     */
    private static final class Text {
        static final int BURN = 0, FEE = 1, FINE = 2, KEYS = 3;
        /** Steps of 0 or more are NUMBERS; NAME_0 less i is the NAME at place i of its KEY's names. */
        static final int NAME_0 = -1, NAME_2 = -3, NOT = -4;
        static final int OR = -5, AND = -6, LESS = -7, SAME = -8, MORE = -9, PLUS = -10, MINUS = -11, TIMES = -12, OVER = -13;

        final int key;
        final int operands;
        private final int[] steps;
        private final int[] stack;

        Text(int key, int operands, int[] steps) {
            this.key = key;
            this.operands = operands;
            this.steps = steps;
            this.stack = new int[Math.max(operands, 1)];
        }

        static boolean isKey(int key) {
            return 0 <= key && key < KEYS;
        }

        int gives(int name0, int name1, int name2) {
            int top = 0;
            for (int i = 0; i < steps.length; i++) {
                int step = steps[i];
                if (step >= NAME_2) {
                    if (top < stack.length) {
                        stack[top] = step >= 0 ? step : step == NAME_0 ? name0 : step == NAME_2 ? name2 : name1;
                        top++;
                    }
                } else if (step == NOT) {
                    if (top >= 1) {
                        stack[top - 1] = stack[top - 1] == 0 ? 1 : 0;
                    }
                } else if (top >= 2) {
                    top--;
                    stack[top - 1] = workedOut(step, stack[top - 1], stack[top]);
                }
            }
            return stack[0];
        }

        private static int workedOut(int step, int a, int b) {
            switch (step) {
                case OR: return a != 0 || b != 0 ? 1 : 0;
                case AND: return a != 0 && b != 0 ? 1 : 0;
                case LESS: return a < b ? 1 : 0;
                case SAME: return a == b ? 1 : 0;
                case MORE: return a > b ? 1 : 0;
                case PLUS: return a + b;
                case MINUS: return a - b;
                case TIMES: return a * b;
                default: return b == 0 ? 0 : a / b;
            }
        }
    }

    /** THE TAPE, and what reads a TEXT from it. */
    private static final class TextReader {
        private static final int END = 0, LETTERS = 1, DIGITS = 2, SIGN = 3, WRONG = 4;
        private static final int LOOSEST = 0, TEST = 2, TIGHTEST = 4, NESTED_MOST = 8, DIGITS_MOST = 4;

        private final int[] tape = new int[TAPE_MOST];
        int length;
        /** The word or sign that is looked at: its sort, its first place, the place behind it. */
        private int sort;
        int start;
        private int end;
        private int key;
        private int operands;
        private final int[] steps = new int[TAPE_MOST];
        private int stepCount;

        void addBytes(int four) {
            for (int shift = 24; shift >= 0 && length < TAPE_MOST; shift -= 8) {
                tape[length] = four >>> shift & 255;
                length++;
            }
        }

        /** Whether THE TAPE is a TEXT; if not, start is the place of its FAULT. */
        boolean readText() {
            sort = SIGN;
            end = 0;
            operands = 0;
            stepCount = 0;
            step();
            key = keyHere();
            if (key < 0) {
                return false;
            }
            step();
            return readLevel(LOOSEST, 0, 0) && sort == END;
        }

        Text readOne() {
            int[] own = new int[stepCount];
            System.arraycopy(steps, 0, own, 0, stepCount);
            return new Text(key, operands, own);
        }

        /** Goes on to the next word or sign. */
        private void step() {
            boolean behindWord = sort == LETTERS || sort == DIGITS;
            int from = end;
            start = end;
            while (start < length && tape[start] == ' ') {
                start++;
            }
            sort = sortAt(start);
            end = start;
            if (sort == SIGN) {
                end++;
            } else if (sort != END) {
                while (end < length && sortAt(end) == sort) {
                    end++;
                }
                boolean tooLong = sort == DIGITS && end - start > DIGITS_MOST;
                if (tooLong || behindWord && start == from) {
                    sort = WRONG;
                }
            }
        }

        private int sortAt(int place) {
            if (place < 0 || place >= length) {
                return END;
            }
            int b = tape[place];
            if ('a' <= b && b <= 'z') {
                return LETTERS;
            }
            return '0' <= b && b <= '9' ? DIGITS : SIGN;
        }

        private int keyHere() {
            if (isWord("burn")) {
                return Text.BURN;
            }
            if (isWord("fee")) {
                return Text.FEE;
            }
            return isWord("fine") ? Text.FINE : -1;
        }

        private boolean isWord(String word) {
            if (sort != LETTERS || end - start != word.length()) {
                return false;
            }
            for (int i = 0; i < word.length(); i++) {
                if (tape[start + i] != word.charAt(i)) {
                    return false;
                }
            }
            return true;
        }

        private boolean isSign(int sign) {
            return sort == SIGN && tape[start] == sign;
        }

        /** OR, AND, TEST, SUM and TERM are levels 0 to 4: each is a row of the next one, with signs between. */
        private boolean readLevel(int level, int parens, int bangs) {
            if (level > TIGHTEST) {
                return readPiece(parens, bangs);
            }
            if (!readLevel(level + 1, parens, bangs)) {
                return false;
            }
            int most = level == TEST ? 1 : TAPE_MOST;
            for (int i = 0; i < most; i++) {
                int work = workOf(level);
                if (work == 0) {
                    return true;
                }
                step();
                if (!readLevel(level + 1, parens, bangs)) {
                    return false;
                }
                add(work);
            }
            return true;
        }

        /** The step for the sign that is looked at, if it is one of this level; else 0. */
        private int workOf(int level) {
            if (sort != SIGN) {
                return 0;
            }
            switch (tape[start]) {
                case '|': return level == 0 ? Text.OR : 0;
                case '&': return level == 1 ? Text.AND : 0;
                case '<': return level == TEST ? Text.LESS : 0;
                case '=': return level == TEST ? Text.SAME : 0;
                case '>': return level == TEST ? Text.MORE : 0;
                case '+': return level == 3 ? Text.PLUS : 0;
                case '-': return level == 3 ? Text.MINUS : 0;
                case '*': return level == TIGHTEST ? Text.TIMES : 0;
                case '/': return level == TIGHTEST ? Text.OVER : 0;
                default: return 0;
            }
        }

        private boolean readPiece(int parens, int bangs) {
            if (sort == DIGITS || sort == LETTERS) {
                return readOperand();
            }
            if (isSign('!') && bangs < NESTED_MOST) {
                step();
                if (!readPiece(parens, bangs + 1)) {
                    return false;
                }
                add(Text.NOT);
                return true;
            }
            if (isSign('(') && parens < NESTED_MOST) {
                step();
                if (!readLevel(LOOSEST, parens + 1, bangs) || !isSign(')')) {
                    return false;
                }
                step();
                return true;
            }
            return false;
        }

        private boolean readOperand() {
            int operand = sort == DIGITS ? numberHere() : nameHere();
            if (operand < Text.NAME_2) {
                return false;
            }
            operands++;
            add(operand);
            step();
            return true;
        }

        private int numberHere() {
            int number = 0;
            for (int i = start; i < end; i++) {
                number = number * 10 + tape[i] - '0';
            }
            return number;
        }

        /** The step for the NAME that is looked at; BAD, if it is none of this KEY. */
        private int nameHere() {
            int place = end - start == 1 ? namesOfKey().indexOf((char) tape[start]) : -1;
            return place < 0 ? BAD : Text.NAME_0 - place;
        }

        private String namesOfKey() {
            switch (key) {
                case Text.BURN: return "ows";
                case Text.FEE: return "nw";
                default: return "pd";
            }
        }

        private void add(int work) {
            if (stepCount < TAPE_MOST) {
                steps[stepCount] = work;
                stepCount++;
            }
        }
    }

    /** A row of shorts or floats; these are whole and small, so ints hold both, and NONE is NO NUMBER. */
    private static final class Sheet {
        static final int MISSING = -1, SHORTS = 0, FLOATS = 1, PLACES_MOST = 24;

        int sort = MISSING;
        int size;
        final int[] places = new int[PLACES_MOST];

        boolean isMissing() {
            return sort == MISSING;
        }

        void clear(int newSort, int newSize) {
            sort = newSort;
            size = Math.max(0, Math.min(newSize, PLACES_MOST));
            for (int i = 0; i < PLACES_MOST; i++) {
                places[i] = 0;
            }
        }

        void becomes(Sheet other) {
            sort = other.sort;
            size = other.size;
            System.arraycopy(other.places, 0, places, 0, PLACES_MOST);
        }

        boolean hasPlace(int place) {
            return 0 <= place && place < size;
        }

        /** Subtracts, where a sum of two large ints would wrap. */
        boolean hasPlaces(int place, int many) {
            return 0 <= place && 0 <= many && place <= size && many <= size - place;
        }

        boolean hasNumber(int place) {
            return hasPlace(place) && places[place] != NONE;
        }
    }

    /** What a SLOT holds; the LAMP and the row are its own, so that nothing later reaches them. */
    private static final class Slot {
        static final int EMPTY = 0, LAMP = 1, SHEET = 2, NUMBER = 3;

        int thing;
        final Lamp lamp = new Lamp();
        final Sheet row = new Sheet();
        int number;
    }
}
