import java.util.ArrayList;
import java.util.HashMap;
import java.util.List;

/**
 * A second reading of the document, for ModelTest: written as plainly as can be and by other means than LampOrder
 * (a tree of classes for the KINDS, texts that are split at their loosest sign, an automaton that finds the FAULT),
 * so that a slip in the one is not likely to be in the other.
 */
final class PlainModel {
    static final int BAD = -1000000001, NO = -1000000002, FULL = -1000000003, NONE = -1000000005;
    static final int NOTHING = -1000000011, KIND = -1000000012, INDEX = -1000000013, SIZE = -1000000014;

    static class Lamp {
        int place, oil, poured, ended, lit, darks;
        int burns(World w) { return Math.max(0, Math.min(9999, w.burn(this))); }
        int drinks(int m) { return Math.min(m / 10, oil); }
        int worth() { return place; }
        int kind() { return 0; }
    }
    static class Sheltered extends Lamp {
        @Override int burns(World w) { return (oil * 10 + super.burns(w)) / 2; }
        @Override int worth() { return super.worth() + 6; }
        @Override int kind() { return 1; }
    }
    static class Open extends Lamp {
        @Override int burns(World w) { return Math.max(0, super.burns(w) - 20); }
        @Override int worth() { return 99 - place; }
        @Override int kind() { return 2; }
    }
    static final class Glazed extends Sheltered {
        @Override int burns(World w) { return oil * 10; }
        @Override int worth() { return 2 * super.worth(); }
        @Override int kind() { return 3; }
    }
    static final class Leaky extends Open {
        @Override int burns(World w) { return super.burns(w) / 2; }
        @Override int drinks(int m) { return Math.min(super.drinks(m) + 5, oil); }
        @Override int worth() { return super.worth() - 4; }
        @Override int kind() { return 4; }
    }
    static final class Canal extends Lamp {
        @Override int burns(World w) { return 9999; }
        @Override int drinks(int m) { return 0; }
        @Override int worth() { return 3; }
        @Override int kind() { return 5; }
    }
    private static final Class<?>[] KINDS = {Lamp.class, Sheltered.class, Open.class, Glazed.class, Leaky.class, Canal.class};

    static Lamp made(int kind, Lamp like) {
        Lamp l;
        switch (kind) {
            case 0: l = new Lamp(); break;
            case 1: l = new Sheltered(); break;
            case 2: l = new Open(); break;
            case 3: l = new Glazed(); break;
            case 4: l = new Leaky(); break;
            default: l = new Canal();
        }
        if (like != null) {
            l.place = like.place; l.oil = like.oil; l.poured = like.poured;
            l.ended = like.ended; l.lit = like.lit; l.darks = like.darks;
        }
        return l;
    }

    static final class World {
        List<Lamp> lamps = new ArrayList<>();
        List<String> texts = new ArrayList<>();
        int law, wind, dawn = 600, walked, night, z = 1;

        World twin() {
            World w = new World();
            for (Lamp l : lamps) w.lamps.add(made(l.kind(), l));
            w.texts.addAll(texts);
            w.law = law; w.wind = wind; w.dawn = dawn; w.walked = walked; w.night = night; w.z = z;
            return w;
        }
        int draw() { z = z * 1103515245 + 12345; return z >>> 8; }
        int textFor(String key) {
            for (int i = texts.size() - 1; i >= 0; i--) if (tokens(texts.get(i)).get(0).equals(key)) return i;
            return NONE;
        }
        int value(String key, String names, int... values) {
            List<String> t = tokens(texts.get(textFor(key)));
            return eval(t.subList(1, t.size()), names, values);
        }
        int burn(Lamp l) {
            if (textFor("burn") == NONE) return l.oil * 10 - wind * l.oil / 2;
            return value("burn", "ows", l.oil, wind, l.place);
        }
        List<Integer> order() {
            List<Integer> o = new ArrayList<>();
            for (int i = 0; i < lamps.size(); i++) o.add(i);
            o.sort((a, b) -> {
                Lamp x = lamps.get(a), y = lamps.get(b);
                int c = law == 0 ? x.ended - y.ended : law == 1 ? y.ended - x.ended : x.place - y.place;
                return c != 0 ? c : a - b;
            });
            return o;
        }
        int way() {
            int sum = 0, at = 0;
            for (int i : order()) { sum += Math.abs(at - lamps.get(i).place) + 1; at = lamps.get(i).place; }
            return sum;
        }
        void night(Lamp without) {
            List<Integer> order = order();
            wind = draw() % 10;
            int minute = 0, at = 0;
            for (int i : order) {
                Lamp l = lamps.get(i);
                if (l == without) continue;
                minute = minute + Math.abs(at - l.place) + 1;
                at = l.place;
                l.lit = minute;
                boolean dry = l.oil == 0;
                l.ended = l.lit > dawn ? l.lit : Math.min(l.lit + l.burns(this), dawn);
                l.oil -= l.drinks(l.ended - l.lit);
                if (dry && !(l instanceof Canal)) l.darks++;
            }
            walked += minute;
            for (Lamp l : lamps) if (l != without) l.oil = Math.min(999, l.oil + l.poured);
            night++;
        }
    }

    static final class Row {
        final boolean floats;
        final Integer[] at;
        Row(boolean floats, int n) { this.floats = floats; at = new Integer[n]; java.util.Arrays.fill(at, 0); }
        Row twin() { Row r = new Row(floats, at.length); System.arraycopy(at, 0, r.at, 0, at.length); return r; }
    }

    World now = new World();
    World image;
    Row[] sheets = new Row[4];
    Object[] slots = new Object[5];
    List<Integer> waiting = new ArrayList<>();
    StringBuilder tape = new StringBuilder();

    // ---- texts: words and signs, FAULT, what they give

    private static final HashMap<String, List<String>> SPLIT = new HashMap<>();

    static List<String> tokens(String s) {
        return SPLIT.computeIfAbsent(s, PlainModel::split);
    }
    private static List<String> split(String s) {
        List<String> all = new ArrayList<>();
        for (int i = 0; i < s.length();) {
            int to = wordEnd(s, i);
            if (s.charAt(i) != ' ') all.add(s.substring(i, to));
            i = to;
        }
        return all;
    }
    static int wordEnd(String s, int i) {
        String of = Character.toString(s.charAt(i));
        String set = of.matches("[a-z]") ? "[a-z]" : of.matches("[0-9]") ? "[0-9]" : null;
        int to = i + 1;
        while (set != null && to < s.length() && Character.toString(s.charAt(to)).matches(set)) to++;
        return to;
    }
    /** The place of the FAULT, or -1: goes over the words once, knowing only whether a PIECE is due and what is open. */
    static int fault(String s) {
        String names = null;
        boolean due = true, word = false;
        List<int[]> open = new ArrayList<>(); // of each ( : ! that are open right ahead of it; whether a TEST had its sign
        open.add(new int[2]);
        int bangs = 0, opened = 0;
        for (int i = 0; i < s.length();) {
            int to = wordEnd(s, i);
            String t = s.substring(i, to);
            if (t.equals(" ")) { word = false; i = to; continue; }
            boolean isWord = t.matches("[a-z]+|[0-9]+");
            if (isWord && word) return i;
            word = isWord;
            int[] top = open.get(open.size() - 1);
            if (names == null) {
                names = t.equals("burn") ? "[ows]" : t.equals("fee") ? "[nw]" : t.equals("fine") ? "[pd]" : null;
                if (names == null) return i;
            } else if (due) {
                if (t.matches("[0-9]{1,4}") || t.matches(names)) {
                    due = false; opened -= bangs; bangs = 0;
                } else if (t.equals("!")) {
                    if (opened == 8) return i;
                    bangs++; opened++;
                } else if (t.equals("(")) {
                    if (open.size() == 9) return i;
                    open.add(new int[] {bangs, 0});
                    bangs = 0;
                } else return i;
            } else if (t.equals(")")) {
                if (open.size() == 1) return i;
                opened -= open.remove(open.size() - 1)[0];
            } else if (t.matches("[-+*/]")) {
                due = true;
            } else if (t.matches("[<=>]")) {
                if (top[1] == 1) return i;
                top[1] = 1; due = true;
            } else if (t.matches("[&|]")) {
                top[1] = 0; due = true;
            } else return i;
            i = to;
        }
        return names == null || due || open.size() > 1 ? s.length() : -1;
    }
    static int eval(List<String> t, String names, int... v) {
        String[] levels = {"|", "&", "<=>", "+-", "*/"};
        for (String signs : levels) {
            int depth = 0;
            for (int i = t.size() - 1; i > 0; i--) {
                String s = t.get(i);
                if (s.equals(")")) depth++;
                if (s.equals("(")) depth--;
                if (depth == 0 && s.length() == 1 && signs.contains(s)) {
                    int a = eval(t.subList(0, i), names, v), b = eval(t.subList(i + 1, t.size()), names, v);
                    switch (s) {
                        case "|": return a != 0 | b != 0 ? 1 : 0;
                        case "&": return a != 0 & b != 0 ? 1 : 0;
                        case "<": return a < b ? 1 : 0;
                        case "=": return a == b ? 1 : 0;
                        case ">": return a > b ? 1 : 0;
                        case "+": return a + b;
                        case "-": return a - b;
                        case "*": return a * b;
                        default: return b == 0 ? 0 : a / b;
                    }
                }
            }
        }
        String s = t.get(0);
        if (s.equals("!")) return eval(t.subList(1, t.size()), names, v) == 0 ? 1 : 0;
        if (s.equals("(")) return eval(t.subList(1, t.size() - 1), names, v);
        return names.contains(s) ? v[names.indexOf(s)] : Integer.parseInt(s);
    }

    // ---- the calls

    boolean no(int lamp) { return lamp < 0 || lamp >= now.lamps.size(); }
    static boolean out(int v, int lo, int hi) { return v < lo || v > hi; }

    public int lamp(int kind, int place, int oil, int poured) {
        if (out(kind, 0, 5) || out(place, 0, 99) || out(oil, 0, 999) || out(poured, 0, 99)) return BAD;
        if (now.lamps.size() == 10) return FULL;
        Lamp l = made(kind, null);
        l.place = place; l.oil = oil; l.poured = poured; l.ended = now.lamps.size();
        now.lamps.add(l);
        return l.ended;
    }
    public int told(int lamp, int what) {
        if (no(lamp) || out(what, 0, 8)) return BAD;
        Lamp l = now.lamps.get(lamp);
        return new int[] {l.kind(), l.place, l.oil, l.poured, l.ended, l.lit, l.darks, l.burns(now), l.worth()}[what];
    }
    public int drinks(int lamp, int m) { return no(lamp) || out(m, 0, 999) ? BAD : now.lamps.get(lamp).drinks(m); }
    public int as(int lamp, int kind) {
        if (no(lamp) || out(kind, 0, 5)) return BAD;
        return KINDS[kind].isInstance(now.lamps.get(lamp)) ? now.lamps.get(lamp).place : KIND;
    }
    public int turns(int lamp, int kind) {
        if (no(lamp) || out(kind, 0, 5)) return BAD;
        return now.lamps.set(lamp, made(kind, now.lamps.get(lamp))).kind();
    }
    public int set(int lamp, int what, int v) {
        if (no(lamp) || out(what, 1, 4) || out(v, 0, new int[] {0, 99, 999, 99, 9999}[what])) return BAD;
        Lamp l = now.lamps.get(lamp);
        int was = told(lamp, what);
        if (what == 1) l.place = v;
        if (what == 2) l.oil = v;
        if (what == 3) l.poured = v;
        if (what == 4) l.ended = v;
        return was;
    }
    public int deal(int n) {
        if (out(n, 1, 10)) return BAD;
        int came = 0;
        while (came < n && now.lamps.size() < 10) {
            int k = now.draw() % 6, p = now.draw() % 60, o = now.draw() % 80, d = now.draw() % 40;
            lamp(k, p, o, d);
            came++;
        }
        return came;
    }
    public int seed(int v) { int was = now.z; now.z = v; return was; }
    public int rule(int what, int v) {
        int was = what == 0 ? now.law : what == 1 ? now.wind : now.dawn;
        if (out(what, 0, 2) || out(v, what == 2 ? 60 : 0, new int[] {2, 9, 999}[what])) return BAD;
        if (what == 0) now.law = v;
        if (what == 1) now.wind = v;
        if (what == 2) now.dawn = v;
        return was;
    }
    public int order(int i) { return no(i) ? BAD : now.order().get(i); }
    public int nights(int n) {
        if (out(n, 1, 100)) return BAD;
        int was = now.walked;
        for (int i = 0; i < n && now.night < 9999; i++) now.night(null);
        return now.walked - was;
    }
    public int way() { return now.way(); }
    public int dark(int m) {
        if (out(m, 0, 9999)) return BAD;
        int set = 0;
        for (int i = 0; i < now.lamps.size(); i++) {
            Lamp l = now.lamps.get(i);
            if (!(l.lit <= m && m < l.ended)) set += 1 << i;
        }
        return set;
    }
    static int sum(World w, int what) {
        int s = 0;
        for (Lamp l : w.lamps) s += what == 1 ? l.darks : what == 2 ? l.oil : what == 3 ? l.poured : l.ended;
        return what == 0 ? w.walked : s;
    }
    public int street(int what) { return out(what, 0, 3) ? BAD : sum(now, what); }
    World after(World w, int n) { World t = w.twin(); for (int i = 0; i < n; i++) t.night(null); return t; }
    public int behind(int n, int what) {
        if (out(n, 0, 100) || out(what, 0, 3)) return BAD;
        World t = after(now, n);
        return what < 3 ? sum(t, what) : t.lamps.isEmpty() ? NONE : t.order().get(0);
    }
    public int round() {
        World t = now.twin();
        for (int k = 1; k <= 200; k++) { t.night(null); if (t.order().equals(now.order())) return k; }
        return NONE;
    }
    public int first(int lamp, int n) {
        if (no(lamp) || out(n, 1, 20)) return BAD;
        for (int p = 0; p < 100; p++) {
            World t = now.twin();
            t.lamps.get(lamp).poured = p;
            if (after(t, n).order().get(0) == lamp) return p;
        }
        return NONE;
    }
    private static int least(int[] of, int what) {
        int best = 0;
        for (int i = of.length - 1; i >= 0; i--) if (of[i] <= of[best] && (of[i] < of[best] || i < best)) best = i;
        return what == 0 ? best : of[best];
    }
    public int leastLaw(int n, int what) {
        if (out(n, 1, 60) || out(what, 0, 1)) return BAD;
        int[] walked = new int[3];
        for (int law = 0; law < 3; law++) { World t = now.twin(); t.law = law; walked[law] = after(t, n).walked; }
        return least(walked, what);
    }
    public int spared(int n, int what) {
        if (out(n, 1, 60) || out(what, 0, 1)) return BAD;
        if (now.lamps.isEmpty()) return NONE;
        int[] walked = new int[now.lamps.size()];
        for (int k = 0; k < walked.length; k++) {
            World t = now.twin();
            for (int i = 0; i < n; i++) t.night(t.lamps.get(k));
            walked[k] = t.walked;
        }
        return least(walked, what);
    }
    public int last(int n, int what) {
        if (out(n, 1, 60) || out(what, 0, 1)) return BAD;
        if (now.lamps.isEmpty()) return NONE;
        int[] never = new int[now.lamps.size()];
        World t = now.twin();
        for (int i = 0; i < n; i++) { List<Integer> o = t.order(); never[o.get(o.size() - 1)]--; t.night(null); }
        int best = least(never, 0);
        return what == 0 ? best : -never[best];
    }
    public int oiled(int sheet, int lamp, int what) {
        if (out(sheet, 0, 3) || no(lamp) || out(what, 0, 1)) return BAD;
        if (sheets[sheet] == null) return NOTHING;
        int[] off = new int[100];
        for (int oil = 0; oil < 100; oil++) {
            World t = now.twin();
            t.lamps.get(lamp).oil = oil;
            for (Integer v : sheets[sheet].at) {
                t.night(null);
                if (v != null) off[oil] += Math.abs(v - t.lamps.get(lamp).ended);
            }
        }
        return least(off, what);
    }
    public int fee() { return now.textFor("fee") == NONE ? now.walked : now.value("fee", "nw", now.night, now.walked); }
    public int fine(int lamp) {
        if (no(lamp)) return BAD;
        Lamp l = now.lamps.get(lamp);
        return now.textFor("fine") == NONE ? l.darks : now.value("fine", "pd", l.poured, l.darks);
    }
    public int feed(int a, int b, int c) {
        if (tape.length() > 84) return FULL;
        for (byte x : java.nio.ByteBuffer.allocate(12).putInt(a).putInt(b).putInt(c).array()) tape.append((char) (x & 255));
        return tape.length();
    }
    public int trim(int n) {
        if (out(n, 0, tape.length())) return BAD;
        tape.setLength(n);
        return n;
    }
    public int text() {
        String s = tape.toString();
        tape.setLength(0);
        int f = fault(s);
        if (f >= 0) return -100 - f;
        if (now.texts.size() == 14) return FULL;
        now.texts.add(s);
        return now.texts.size() - 1;
    }
    public int textTold(int text, int what) {
        if (out(text, 0, now.texts.size() - 1) || out(what, 0, 1)) return BAD;
        List<String> t = tokens(now.texts.get(text));
        if (what == 0) return List.of("burn", "fee", "fine").indexOf(t.get(0));
        int many = 0;
        for (String s : t.subList(1, t.size())) if (s.matches("[a-z0-9]+")) many++;
        return many;
    }
    public int why(int key) { return out(key, 0, 2) ? BAD : now.textFor(List.of("burn", "fee", "fine").get(key)); }
    public int sheet(int sheet, int sort, int n) {
        if (out(sheet, 0, 3) || out(sort, -1, 1) || sort >= 0 && n > 24) return BAD;
        if (sort < 0) { sheets[sheet] = null; return 0; }
        if (n < 0) return SIZE;
        sheets[sheet] = new Row(sort == 1, n);
        return n;
    }
    public int mark(int sheet, int place, int v) {
        if (out(sheet, 0, 3)) return BAD;
        Row r = sheets[sheet];
        if (r == null) return NOTHING;
        if (out(place, 0, r.at.length - 1)) return INDEX;
        if (!r.floats && v == NONE) return KIND;
        if (r.floats && v != NONE && out(v, -99999, 99999)) return BAD;
        r.at[place] = !r.floats ? Integer.valueOf((v & 65535) >= 32768 ? (v & 65535) - 65536 : v & 65535) : v == NONE ? null : Integer.valueOf(v);
        return 1;
    }
    public int pour(int sheet) {
        if (out(sheet, 0, 3)) return BAD;
        if (sheets[sheet] == null) return NOTHING;
        int many = 0;
        for (int i = 0; i < Math.min(now.lamps.size(), sheets[sheet].at.length); i++) {
            Integer v = sheets[sheet].at[i];
            if (v == null) continue;
            int p = v < 0 ? 0 : v > 99 ? 99 : v;
            if (now.lamps.get(i).poured != p) many++;
            now.lamps.get(i).poured = p;
        }
        return many;
    }
    public int reads(int sheet) {
        if (out(sheet, 0, 3)) return BAD;
        if (sheets[sheet] == null) return NOTHING;
        for (int i = 0; i < sheets[sheet].at.length; i++) {
            Integer v = sheets[sheet].at[i];
            if (v != null && (i >= now.lamps.size() || !v.equals(now.order().get(i)))) return i;
        }
        return NONE;
    }
    public int copy(int from, int place, int to, int at, int many) {
        if (out(from, 0, 3) || out(to, 0, 3)) return BAD;
        if (sheets[from] == null || sheets[to] == null) return NOTHING;
        if (sheets[from].floats != sheets[to].floats) return KIND;
        try {
            System.arraycopy(sheets[from].at, place, sheets[to].at, at, many);
            return many;
        } catch (IndexOutOfBoundsException e) {
            return INDEX;
        }
    }
    public int lay(int slot, int thing, int k) {
        if (out(slot, 0, 4) || out(thing, 0, 3) || thing == 1 && no(k) || thing == 2 && out(k, 0, 3)) return BAD;
        if (thing == 2 && sheets[k] == null) return NOTHING;
        Object was = slots[slot];
        slots[slot] = thing == 0 ? null : thing == 1 ? made(now.lamps.get(k).kind(), now.lamps.get(k)) : thing == 2 ? sheets[k].twin() : (Object) k;
        return was == null ? 0 : was instanceof Lamp ? 1 : was instanceof Row ? 2 : 3;
    }
    public int ask(int slot, int kind) {
        if (out(slot, 0, 4) || out(kind, 0, 5)) return BAD;
        if (slots[slot] == null) return NOTHING;
        return KINDS[kind].isInstance(slots[slot]) ? ((Lamp) slots[slot]).worth() : KIND;
    }
    public int item(int slot, int place) {
        if (out(slot, 0, 4)) return BAD;
        if (slots[slot] == null) return NOTHING;
        if (!(slots[slot] instanceof Row)) return KIND;
        Row r = (Row) slots[slot];
        if (out(place, 0, r.at.length - 1)) return INDEX;
        return r.at[place] == null ? KIND : r.at[place];
    }
    public int rest(int slot, int n) {
        if (out(slot, 0, 4)) return BAD;
        if (slots[slot] == null) return NOTHING;
        if (!(slots[slot] instanceof Integer)) return KIND;
        return n == 0 ? NO : (Integer) slots[slot] % n;
    }
    public int tell(int v) {
        if (waiting.size() == 60) return FULL;
        waiting.add(v);
        return waiting.size();
    }
    public int check(int n) {
        List<Integer> had = waiting;
        waiting = new ArrayList<>();
        if (out(n, 1, 30)) return BAD;
        if (image == null) return NO;
        List<Integer> rows = rows(n);
        int same = 0;
        while (same < rows.size() && same < had.size() && rows.get(same).equals(had.get(same))) same++;
        return same == rows.size() && same == had.size() ? 0 : 1 + same;
    }
    /** THE NIGHTS TOLD. */
    List<Integer> rows(int n) {
        List<Integer> rows = new ArrayList<>();
        World t = image.twin();
        for (int i = 0; i < n && t.night < 9999; i++) {
            t.night(null);
            rows.add(t.walked);
            rows.add(sum(t, 4));
        }
        return rows;
    }
    public int keep() { image = now.twin(); return now.lamps.size(); }
    public int back() {
        if (image == null) return NO;
        now = image.twin();
        return now.lamps.size();
    }
    public int count(int what) {
        if (out(what, 0, 8)) return BAD;
        return new int[] {now.lamps.size(), now.night, now.law, now.wind, now.dawn, now.texts.size(), waiting.size(), tape.length(), now.z}[what];
    }
}
