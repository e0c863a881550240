import java.lang.management.ManagementFactory;
import java.lang.reflect.Constructor;
import java.lang.reflect.Field;
import java.lang.reflect.Method;
import java.lang.reflect.Modifier;
import java.nio.charset.StandardCharsets;
import java.nio.file.Files;
import java.nio.file.Path;
import java.util.ArrayList;
import java.util.List;
import java.util.TreeSet;
import java.util.regex.Matcher;
import java.util.regex.Pattern;

/** The document's face, the rules of LANGUAGE.md that a look at class and source can tell, and the room a run takes. */
public final class LanguageTest {
    private static final String[] FACE = {
        "lamp 4", "told 2", "drinks 2", "as 2", "turns 2", "set 3", "deal 1", "seed 1", "rule 2", "order 1", "nights 1", "way 0", "dark 1", "street 1",
        "behind 2", "round 0", "first 2", "leastLaw 2", "spared 2", "last 2", "oiled 3", "fee 0", "fine 1", "feed 3", "trim 1", "text 0", "textTold 2",
        "why 1", "sheet 3", "mark 3", "pour 1", "reads 1", "copy 5", "lay 3", "ask 2", "item 2", "rest 2", "tell 1", "check 1", "keep 0", "back 0", "count 1"};
    private static final String CONSTANTS =
        "BAD -1000000001, NO -1000000002, FULL -1000000003, NONE -1000000005, NOTHING -1000000011, KIND -1000000012, INDEX -1000000013, SIZE -1000000014";
    private static final Due due = new Due();

    public static void main(String[] args) throws Exception {
        face();
        nestedClasses();
        source();
        room();
        due.end();
    }

    private static void face() throws Exception {
        Class<?> c = LampOrder.class;
        due.is("rule 1: public and final", c.getModifiers(), Modifier.PUBLIC | Modifier.FINAL);
        TreeSet<String> face = new TreeSet<>(List.of(FACE));
        TreeSet<String> names = new TreeSet<>();
        for (String one : FACE) {
            names.add(one.split(" ")[0]);
        }
        for (Method m : c.getDeclaredMethods()) {
            if (Modifier.isPrivate(m.getModifiers())) {
                due.holds("rule 1: private " + m.getName() + " has a name of its own", !names.contains(m.getName()));
            } else {
                due.holds("rule 1: " + m, m.getModifiers() == Modifier.PUBLIC && m.getReturnType() == int.class);
                due.holds("rule 1: " + m + " is of the face", face.remove(m.getName() + " " + m.getParameterCount()));
            }
        }
        due.holds("rule 1: all are there, but " + face, face.isEmpty());
        Constructor<?>[] constructors = c.getDeclaredConstructors();
        due.is("rule 1: one constructor", constructors.length, 1);
        due.is("rule 1: without numbers", constructors[0].getParameterCount(), 0);
        StringBuilder constants = new StringBuilder();
        for (Field f : c.getDeclaredFields()) {
            if (!Modifier.isPrivate(f.getModifiers())) {
                due.is("rule 1: " + f, f.getModifiers(), Modifier.PUBLIC | Modifier.STATIC | Modifier.FINAL);
                constants.append(constants.length() > 0 ? ", " : "").append(f.getName()).append(' ').append(f.getInt(null));
            }
        }
        due.holds("rule 1: the constants are " + constants, constants.toString().equals(CONSTANTS));
    }

    private static void nestedClasses() {
        List<Class<?>> all = new ArrayList<>(List.of(LampOrder.class.getDeclaredClasses()));
        due.holds("rule 11: some twelve classes", all.size() < 12);
        for (Class<?> c : all) {
            due.holds("rule 2: " + c + " is static", Modifier.isStatic(c.getModifiers()));
            due.holds("rule 1: " + c + " is hidden", (c.getModifiers() & (Modifier.PUBLIC | Modifier.PROTECTED)) == 0);
        }
        all.add(LampOrder.class);
        for (Class<?> c : all) {
            int own = 0;
            for (Field f : c.getDeclaredFields()) {
                if (Modifier.isStatic(f.getModifiers())) {
                    due.holds("rule 5: " + f + " is final", Modifier.isFinal(f.getModifiers()));
                } else {
                    own++;
                }
            }
            due.holds("rule 11: fields of " + c, own <= 20);
        }
    }

    private static void source() throws Exception {
        String text = new String(Files.readAllBytes(Path.of("src/main/java/LampOrder.java")), StandardCharsets.ISO_8859_1);
        due.holds("rule 4: signs 1 to 127", text.chars().allMatch(b -> b > 0 && b < 128));
        String code = text.replaceAll("(?s)/\\*.*?\\*/", "").replaceAll("//[^\n]*", "");
        String[] banned = {"\\bthrow\\b", "\\btry\\b", "\\bcatch\\b", "\\bsynchronized\\b", "\\bassert\\b", "->", "::", "Exact\\b", "\\bpackage\\b",
            "\\bimport\\b", "\\bfinally\\b", "\\bSystem\\.(?!arraycopy)", "\\bvar\\b", "\\bprotected\\b", "while \\(true\\)", "for \\(;;"};
        for (String one : banned) {
            Matcher m = Pattern.compile(one).matcher(code);
            due.holds("rules 4, 6, 9: no " + one, !m.find());
        }
        methodLengths(code);
    }

    /** A method begins at a line that ends with ") {" and stands in by four or eight, and ends at the brace below. */
    private static void methodLengths(String code) {
        String[] lines = code.split("\n");
        Pattern head = Pattern.compile("^( {4}| {8})(public |private |static |final )*[A-Za-z]+(\\[\\])?( [A-Za-z]+)?\\((.*)\\) \\{$");
        for (int i = 0; i < lines.length; i++) {
            Matcher m = head.matcher(lines[i]);
            if (m.find() && !lines[i].trim().startsWith("if ") && !lines[i].trim().startsWith("for ")) {
                int end = i;
                while (end < lines.length && !lines[end].equals(m.group(1) + "}")) {
                    end++;
                }
                due.holds("rule 11: lines of " + lines[i].trim(), end - i < 60);
                due.holds("rule 11: parameters of " + lines[i].trim(), m.group(5).split(",").length <= 7);
            }
        }
    }

    private static LampOrder fullStreet() {
        LampOrder x = new LampOrder();
        x.deal(10);
        x.sheet(0, 0, 24);
        Tools.read(x, "burn o*9-w*(s+1)/2");
        return x;
    }

    /** The dearest calls make nothing; text() makes little; nor is a new object dear. Bytes here, elements are fewer. */
    private static void room() {
        com.sun.management.ThreadMXBean threads = (com.sun.management.ThreadMXBean) ManagementFactory.getThreadMXBean();
        LampOrder x = fullStreet();
        dearest(x, 2);
        long before = threads.getCurrentThreadAllocatedBytes();
        dearest(x, 50);
        long calls = threads.getCurrentThreadAllocatedBytes() - before;
        due.holds("room: dear calls took " + calls + " bytes", calls < 10_000);
        before = threads.getCurrentThreadAllocatedBytes();
        for (int i = 0; i < 500; i++) {
            x = new LampOrder();
        }
        long objects = threads.getCurrentThreadAllocatedBytes() - before;
        due.holds("room: 500 objects took " + objects + " bytes", objects < 500 * 8_000);
        x.keep();
        before = threads.getCurrentThreadAllocatedBytes();
        for (int i = 0; i < 40; i++) {
            x.back();
            Tools.read(x, "fee " + "1+".repeat(45) + "1");
        }
        long texts = threads.getCurrentThreadAllocatedBytes() - before;
        due.holds("room: 40 texts took " + texts + " bytes", texts < 40 * 2_000);
    }

    private static void dearest(LampOrder x, int times) {
        for (int i = 0; i < times; i++) {
            x.first(i % 10, 20);
            x.oiled(0, i % 10, 0);
            x.spared(60, 0);
            x.leastLaw(60, 1);
            x.last(60, 0);
            x.round();
            x.behind(100, 3);
            x.keep();
            x.check(30);
        }
    }
}
