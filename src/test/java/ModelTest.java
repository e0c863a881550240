import java.lang.reflect.Method;
import java.util.ArrayList;
import java.util.List;
import java.util.Random;
import java.util.TreeMap;

/** Runs of 512 calls by lot on LampOrder and on PlainModel: both answer the same. An argument: how many runs. */
public final class ModelTest {
    /** A call, and of each of its numbers the least and the most that is tried as a rule. */
    private static final String[] CALLS = {
        "lamp 0 5 0 99 0 999 0 99", "lamp 0 5 0 60 0 60 0 40", "told 0 9 0 8", "told 0 9 4 8", "drinks 0 9 0 999", "as 0 9 0 5",
        "turns 0 9 0 5", "set 0 9 1 4 0 99", "set 0 9 2 2 0 999", "set 0 9 4 4 0 9999", "deal 1 10", "deal 1 4", "seed -99 99",
        "rule 0 0 0 2", "rule 1 1 0 9", "rule 2 2 60 999", "order 0 9", "order 0 9", "nights 1 100", "nights 1 4", "way", "dark 0 700",
        "dark 0 9999", "street 0 3", "behind 0 100 0 3", "behind 0 10 0 3", "round", "first 0 9 1 20", "first 0 9 1 4",
        "leastLaw 1 60 0 1", "leastLaw 1 9 0 1", "spared 1 60 0 1", "spared 1 9 0 1", "last 1 60 0 1", "last 1 9 0 1", "oiled 0 3 0 9 0 1",
        "fee", "fine 0 9", "feed -99 99 -99 99 -99 99", "trim 0 96", "text", "textTold 0 14 0 1", "why 0 2", "sheet 0 3 -1 1 0 24",
        "sheet 0 3 0 1 0 9", "mark 0 3 0 9 -99 700", "mark 0 3 0 9 -99999 99999", "mark 0 3 0 9 -1000000005 -1000000005",
        "mark 0 3 0 23 0 9", "pour 0 3", "reads 0 3", "copy 0 3 0 9 0 3 0 9 0 9", "lay 0 4 0 3 0 3", "lay 0 4 1 1 0 9", "ask 0 4 0 5",
        "item 0 4 0 9", "rest 0 4 -9 9", "tell -9 99", "check 1 30", "keep", "back", "count 0 8"};
    private static final int[] ODD = {-1, 0, 1, 2, 3, 10, 24, 25, 60, 61, 99, 100, 999, 1000, 9999, 10000, 99999, 100000, 65536, 40000,
        Integer.MIN_VALUE, Integer.MAX_VALUE, -1000000005, -100000};

    private final Random lot;
    private final int run;
    private final Due due;
    private final LampOrder mine = new LampOrder();
    private final PlainModel plain = new PlainModel();
    private final StringBuilder story = new StringBuilder();
    private final TreeMap<String, Integer> answered;
    private int calls;
    private boolean wrong;

    private ModelTest(int run, Due due, TreeMap<String, Integer> answered) {
        this.run = run;
        this.due = due;
        this.answered = answered;
        lot = new Random(run);
    }

    /** What an object answers behind its 512th call is free. */
    private void call(String name, int... args) throws Exception {
        if (calls >= 512) {
            return;
        }
        Class<?>[] types = new Class<?>[args.length];
        Object[] boxed = new Object[args.length];
        StringBuilder said = new StringBuilder(name).append('(');
        for (int i = 0; i < args.length; i++) {
            types[i] = int.class;
            boxed[i] = args[i];
            said.append(i > 0 ? ", " : "").append(args[i]);
        }
        said.append(')');
        Method theirs = PlainModel.class.getMethod(name, types);
        theirs.setAccessible(true);
        int want = (int) theirs.invoke(plain, boxed);
        int got = (int) LampOrder.class.getMethod(name, types).invoke(mine, boxed);
        calls++;
        story.append(said).append(" = ").append(got).append('\n');
        due.is("run " + run + ", call " + calls + " " + said, got, want);
        wrong |= got != want;
        String sort = want <= -1000000001 && want > -1000000100 ? " " + want : want < -99 ? " fault or less" : " a number";
        answered.merge(name + sort, 1, Integer::sum);
    }

    private int between(int least, int most) {
        return least + lot.nextInt(most - least + 1);
    }

    private void anyCall() throws Exception {
        String[] words = CALLS[lot.nextInt(CALLS.length)].split(" ");
        int[] args = new int[words.length / 2];
        int odd = lot.nextInt(100);
        for (int i = 0; i < args.length; i++) {
            args[i] = between(Integer.parseInt(words[1 + 2 * i]), Integer.parseInt(words[2 + 2 * i]));
            if (odd == i || odd == 50) {
                args[i] = ODD[lot.nextInt(ODD.length)];
            }
        }
        call(words[0], args);
    }

    private String piece(String names, int depth) {
        switch (lot.nextInt(depth > 3 ? 6 : 10)) {
            case 0: case 1: return Integer.toString(lot.nextInt(lot.nextInt(4) == 0 ? 10000 : 20));
            case 6: return "!" + piece(names, depth + 1);
            case 7: case 8: case 9: return "(" + expression(names, depth + 1) + ")";
            default: return Character.toString(names.charAt(lot.nextInt(names.length())));
        }
    }

    private String expression(String names, int depth) {
        StringBuilder s = new StringBuilder(piece(names, depth));
        for (int i = lot.nextInt(4); i > 0; i--) {
            s.append("|&<=>++--***//".charAt(lot.nextInt(14))).append(lot.nextInt(5) == 0 ? " " : "").append(piece(names, depth));
        }
        return s.toString();
    }

    private String anyText() {
        int key = lot.nextInt(3);
        String e = expression(new String[] {"ows", "nw", "pd"}[key], 0);
        StringBuilder s = new StringBuilder(new String[] {"burn ", "fee ", "fine "}[key]).append(e);
        if (lot.nextInt(8) == 0) {
            s.insert(s.indexOf(" ") + 1, "!!!!!!!!!((((((((((!(!(!(!(!!!(!((!".substring(lot.nextInt(20), 20 + lot.nextInt(15)));
        }
        for (int i = lot.nextInt(6) - 3; i > 0; i--) {
            int at = lot.nextInt(s.length());
            char c = "abow |&<=>+-*/!()0987 \u00e9AZ\u0000`{:".charAt(lot.nextInt(29));
            if (lot.nextBoolean()) {
                s.setCharAt(at, c);
            } else {
                s.insert(at, c);
            }
        }
        return s.toString();
    }

    private void feedAndRead() throws Exception {
        call("trim", 0);
        String s = anyText();
        byte[] bytes = new byte[96];
        java.util.Arrays.fill(bytes, (byte) 32);
        int length = Math.min(96, s.length());
        for (int i = 0; i < length; i++) {
            bytes[i] = (byte) s.charAt(i);
        }
        java.nio.ByteBuffer four = java.nio.ByteBuffer.wrap(bytes);
        int fed = lot.nextInt(10) == 0 ? 96 : length;
        for (int i = 0; i < fed; i += 12) {
            call("feed", four.getInt(), four.getInt(), four.getInt());
        }
        if (fed == 96) {
            call("feed", 1, 2, 3);
        }
        if (lot.nextInt(5) > 0) {
            call("trim", length);
        }
        call("text");
        call("fee");
        for (int lamp = 0; lamp < 3; lamp++) {
            call("fine", lamp);
            call("told", lamp, 7);
        }
    }

    private void tellNights() throws Exception {
        call("keep");
        call("check", 1);
        int n = between(1, lot.nextInt(4) == 0 ? 30 : 5);
        List<Integer> rows = new ArrayList<>(plain.rows(n));
        switch (lot.nextInt(5)) {
            case 0: rows.add(3); break;
            case 1: if (!rows.isEmpty()) { rows.remove(rows.size() - 1); } break;
            case 2: if (!rows.isEmpty()) { rows.set(lot.nextInt(rows.size()), 77); } break;
            default: break;
        }
        for (int row : rows) {
            call("tell", row);
        }
        call("check", n);
    }

    private void orderOnSheet() throws Exception {
        int many = plain.now.lamps.size();
        call("sheet", 0, lot.nextInt(2), many);
        for (int i = 0; i < many; i++) {
            call("mark", 0, i, plain.now.order().get(i));
        }
        call("reads", 0);
    }

    /** Rows and slots that hold something, where calls by lot alone would mostly find nothing. */
    private void furnish() throws Exception {
        call("deal", between(1, 10));
        for (int sheet = 0; sheet < 4; sheet++) {
            call("sheet", sheet, lot.nextInt(2), between(0, 12));
            for (int i = 0; i < 6; i++) {
                call("mark", sheet, between(0, 12), lot.nextInt(4) == 0 ? PlainModel.NONE : between(-50, 650));
            }
        }
        for (int slot = 0; slot < 5; slot++) {
            call("lay", slot, between(1, 3), between(0, 3));
        }
    }

    private void run() throws Exception {
        if (run % 10 == 3) {
            for (int i = 0; i < 99; i++) {
                call("nights", 100);
            }
        }
        if (run % 3 == 1) {
            furnish();
        }
        // Some runs are mostly about texts, so that they come to the fourteenth.
        int ways = run % 10 == 7 ? 6 : 40;
        while (calls < 512 && !wrong) {
            int way = lot.nextInt(ways);
            if (way == 0) {
                feedAndRead();
            } else if (way == 1) {
                tellNights();
            } else if (way == 2) {
                orderOnSheet();
            } else {
                anyCall();
            }
        }
        if (wrong) {
            System.out.println(story);
        }
    }

    public static void main(String[] args) throws Exception {
        int runs = args.length > 0 ? Integer.parseInt(args[0]) : 60;
        Due due = new Due();
        TreeMap<String, Integer> answered = new TreeMap<>();
        for (int run = 0; run < runs; run++) {
            new ModelTest(run, due, answered).run();
        }
        if (args.length > 1) {
            answered.forEach((what, many) -> System.out.println(many + " " + what));
        }
        due.end();
    }
}
