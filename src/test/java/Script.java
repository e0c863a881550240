import java.lang.reflect.Method;
import java.util.ArrayList;
import java.util.Arrays;
import java.util.List;
import java.util.Map;
import java.util.Set;
import java.util.regex.Matcher;
import java.util.regex.Pattern;

/**
 * Calls on a new object, written as a text with the answers that are due: "lamp(0, 5, 6, 7) = 0; 3 x seed(4); way() = 6".
 * Besides the calls of the face there are: put "fee 1" (feed and trim, onto an empty TAPE), read "fee 1" (text, too, whose answer
 * it is), row(sheet, sort, numbers) (sheet and marks), scene (lamps, an image, sheets, slots, a tape, numbers that wait), and
 * imageless (the same without the image).
 *
 * Each call that may change nothing, since it only tells or since it is refused, is also made on one of two new objects that
 * have come to the same place: all that can be asked of both must be the same then.
 */
final class Script {
    /** Calls that only tell: they may never change anything. */
    private static final Set<String> TELLS = Set.of("told", "drinks", "as", "order", "way", "dark", "street", "behind", "round", "first",
        "leastLaw", "spared", "last", "oiled", "fee", "fine", "textTold", "why", "reads", "ask", "item", "rest", "count");
    private static final Map<String, Integer> NUMBERS = Map.of("BAD", LampOrder.BAD, "NO", LampOrder.NO, "FULL", LampOrder.FULL,
        "NONE", LampOrder.NONE, "NOTHING", LampOrder.NOTHING, "KIND", LampOrder.KIND, "INDEX", LampOrder.INDEX, "SIZE", LampOrder.SIZE,
        "MIN", Integer.MIN_VALUE, "MAX", Integer.MAX_VALUE);
    private static final Set<Integer> REFUSALS = Set.of(LampOrder.BAD, LampOrder.NO, LampOrder.FULL, LampOrder.NOTHING, LampOrder.KIND,
        LampOrder.INDEX, LampOrder.SIZE);
    private static final Pattern CALL = Pattern.compile(
        "(?:(\\d+) x )?(?:(\\w+)\\(([^)]*)\\)|(read|put) \"([^\"]*)\"|(scene|imageless))(?: = (-?\\w+))?");
    private static final int CALLS_MOST = 512;

    /** The street of THE IMAGE is worked out by hand in RowsTest: the four numbers that wait are its first two nights. */
    private static final String FIRST_LAMPS = "lamp(0, 10, 40, 20); lamp(5, 10, 0, 0); ";
    private static final String THE_REST = "tell(12); tell(931); tell(24); tell(863); "
        + "lamp(3, 30, 25, 9); lamp(4, 20, 60, 15); lamp(1, 45, 7, 3); nights(3); rule(0, 1); rule(2, 500); rule(1, 7); set(2, 2, 0); "
        + "read \"burn o*9-w+s\"; read \"fee w*2-n\"; read \"fine p+d*7\"; "
        + "row(0, 0, 5, -7, 300); row(1, 1, 4, NONE, 99999, 2); sheet(2, 1, 0); "
        + "lay(0, 1, 3); lay(1, 2, 0); lay(2, 3, -123456789); lay(3, 2, 1); "
        + "feed(1717921056, 875770417, 538976288); trim(8)";

    private record Step(String said, Method method, Object[] args, Integer due) {
        String name() {
            return method.getName();
        }

        int on(LampOrder x) {
            try {
                return (int) method.invoke(x, args);
            } catch (ReflectiveOperationException e) {
                throw new IllegalStateException(said + " threw", e);
            }
        }

        boolean isRefused() {
            return due != null && (REFUSALS.contains(due) || name().equals("text") && due <= -100);
        }
    }

    private final List<Step> steps = new ArrayList<>();

    /** Makes the calls of a text; what is wrong is told with the sentence of the document that it breaks. */
    static void run(Due due, String sentence, String... calls) {
        Script script = new Script();
        for (String some : calls) {
            script.addAll(some);
        }
        script.make(due, sentence);
    }

    private void addAll(String calls) {
        for (String one : calls.split(";")) {
            if (!one.isBlank()) {
                Matcher m = CALL.matcher(one.trim());
                if (!m.matches()) {
                    throw new IllegalArgumentException("no call: " + one);
                }
                int times = m.group(1) == null ? 1 : Integer.parseInt(m.group(1));
                for (int i = 0; i < times; i++) {
                    addOne(m);
                }
            }
        }
    }

    private void addOne(Matcher m) {
        Integer due = m.group(7) == null ? null : Integer.valueOf(number(m.group(7)));
        if (m.group(6) != null) {
            addAll(FIRST_LAMPS);
            addAll(m.group(6).equals("scene") ? "keep()" : "");
            addAll(THE_REST);
        } else if (m.group(4) != null) {
            addPut(m.group(5));
            if (m.group(4).equals("read")) {
                add(due, "text");
            }
        } else {
            int[] args = m.group(3).isBlank() ? new int[0] : Arrays.stream(m.group(3).split(",")).mapToInt(s -> number(s.trim())).toArray();
            if (m.group(2).equals("row")) {
                addRow(args);
            } else {
                add(due, m.group(2), args);
            }
        }
    }

    private static int number(String s) {
        Integer named = NUMBERS.get(s);
        return named != null ? named : Integer.parseInt(s);
    }

    private void addPut(String text) {
        int at = 0;
        for (int[] three : Tools.threes(text)) {
            at += 12;
            add(at, "feed", three);
        }
        add(text.length(), "trim", text.length());
    }

    private void addRow(int[] args) {
        add(args.length - 2, "sheet", args[0], args[1], args.length - 2);
        for (int i = 2; i < args.length; i++) {
            add(1, "mark", args[0], i - 2, args[i]);
        }
    }

    private void add(Integer due, String name, int... args) {
        Class<?>[] types = new Class<?>[args.length];
        Arrays.fill(types, int.class);
        StringBuilder said = new StringBuilder(name).append('(');
        for (int i = 0; i < args.length; i++) {
            said.append(i > 0 ? ", " : "").append(args[i]);
        }
        try {
            Method method = LampOrder.class.getMethod(name, types);
            steps.add(new Step(said.append(')').toString(), method, Arrays.stream(args).boxed().toArray(), due));
        } catch (NoSuchMethodException e) {
            throw new IllegalArgumentException(e);
        }
    }

    private void make(Due due, String sentence) {
        if (steps.size() > CALLS_MOST) {
            throw new IllegalArgumentException("more than 512 calls: " + sentence);
        }
        LampOrder x = new LampOrder();
        for (int i = 0; i < steps.size(); i++) {
            Step step = steps.get(i);
            int got = step.on(x);
            if (step.due != null) {
                due.is(sentence + ": " + step.said, got, step.due);
                if (TELLS.contains(step.name()) || step.isRefused() || step.name().equals("check")) {
                    String before = pictureBehind(i, step.name());
                    String after = pictureBehind(i + 1, step.name());
                    due.holds(sentence + ": " + step.said + " changes nothing" + difference(before, after), before.equals(after));
                }
            }
        }
    }

    private static String difference(String before, String after) {
        int at = 0;
        while (at < before.length() && at < after.length() && before.charAt(at) == after.charAt(at)) {
            at++;
        }
        int from = Math.max(0, at - 40);
        String was = before.substring(from, Math.min(at + 40, before.length()));
        return ", but: .." + was + ".. / .." + after.substring(from, Math.min(at + 40, after.length())) + "..";
    }

    /** All that can be asked behind so many calls, but what a call of this name uses up. Each part has an object of its own. */
    private String pictureBehind(int many, String call) {
        boolean tape = !call.equals("text");
        boolean waiting = !call.equals("check");
        StringBuilder s = new StringBuilder();
        street(came(many, 160), s);
        slots(came(many, 165), s);
        sheets(came(many, 115), s);
        LampOrder x = came(many, 180);
        if (tape) {
            s.append(" tape ").append(x.count(7)).append(' ').append(x.text()).append(' ').append(x.count(5)).append(' ').append(x.fee());
            s.append(' ').append(x.told(0, 7)).append(' ').append(x.fine(0)).append(' ').append(x.textTold(x.count(5) - 1, 1));
        }
        if (waiting) {
            int wait = x.count(6);
            s.append(" waiting ").append(wait).append(' ').append(x.check(Math.max(1, wait / 2)));
        }
        s.append(" image ").append(x.back());
        street(x, s);
        return s.toString();
    }

    private LampOrder came(int many, int callsToFollow) {
        if (many + callsToFollow > CALLS_MOST) {
            throw new IllegalArgumentException("more than 512 calls behind " + steps.get(many - 1).said);
        }
        LampOrder x = new LampOrder();
        for (int i = 0; i < many; i++) {
            steps.get(i).on(x);
        }
        return x;
    }

    private static void street(LampOrder x, StringBuilder s) {
        for (int what : new int[] {0, 1, 2, 3, 4, 5, 8}) {
            s.append(x.count(what)).append(' ');
        }
        for (int what = 0; what < 4; what++) {
            s.append(x.street(what)).append(' ');
        }
        for (int lamp = 0; lamp < x.count(0); lamp++) {
            for (int what = 0; what < 9; what++) {
                s.append(x.told(lamp, what)).append(' ');
            }
            s.append(x.order(lamp)).append(' ').append(x.fine(lamp)).append(' ');
        }
        for (int text = 0; text < x.count(5); text++) {
            s.append(x.textTold(text, 0)).append(' ').append(x.textTold(text, 1)).append(' ');
        }
        s.append(x.why(0)).append(' ').append(x.why(1)).append(' ').append(x.why(2)).append(' ').append(x.fee());
    }

    /** By the least int a number's rest is the number, but for the least itself. */
    private static void slots(LampOrder x, StringBuilder s) {
        for (int slot = 0; slot < 5; slot++) {
            s.append(" slot ").append(x.rest(slot, Integer.MIN_VALUE));
            for (int kind = 0; kind < 6; kind++) {
                s.append(' ').append(x.ask(slot, kind));
            }
            for (int place = 0; place < 25; place++) {
                s.append(' ').append(x.item(slot, place));
            }
        }
    }

    /** What a SHEET holds is told by a SLOT alone; its sort by whether NO NUMBER may be put there. */
    private static void sheets(LampOrder x, StringBuilder s) {
        for (int sheet = 0; sheet < 4; sheet++) {
            s.append(" sheet ").append(x.lay(sheet, 2, sheet));
            for (int place = 0; place < 25; place++) {
                s.append(' ').append(x.item(sheet, place));
            }
            s.append(' ').append(x.mark(sheet, 0, LampOrder.NONE));
        }
    }
}
