import java.io.IOException;
import java.lang.reflect.Array;
import java.lang.reflect.Constructor;
import java.lang.reflect.Field;
import java.lang.reflect.Method;
import java.lang.reflect.Modifier;
import java.nio.file.Files;
import java.nio.file.Path;
import java.util.ArrayList;
import java.util.Arrays;
import java.util.Collections;
import java.util.IdentityHashMap;
import java.util.List;
import java.util.Random;
import java.util.Set;
import java.util.TreeSet;
import java.util.regex.Pattern;

/** The public face, the rules of the language that can be seen from outside, and that no call ever throws. */
public final class FaceTest {
    private static final Check CHECK = new Check();
    private static final Path SOURCE = Path.of("src/main/java/SiegePlate.java");
    private static final String[] METHODS = {
        "bought(int,int)", "company(int,int)", "costs(int)", "day(int,int)", "drift(int,int)", "fault()", "feed(int)",
        "firstToDesert(int)", "forged()", "goBack(int)", "gun()", "holds(int)", "judge()", "keep(int)", "least(int,int)",
        "money(int,int)", "offer(int,int)", "owed(int,int)", "promise(int,int)", "rations(int,int)", "relief(boolean)",
        "sally(int,int)", "seed(int)", "show(int,int,int,int)", "tear()", "told(int)", "town()", "undo()", "weighFirst()",
        "write(int,int)"};

    public static void main(String[] args) throws Exception {
        constants();
        members();
        names();
        sizes();
        source();
        room();
        anyCalls();
        CHECK.end();
    }

    private static void constants() {
        CHECK.due("NONE", SiegePlate.NONE, -1);
        CHECK.due("UNKNOWN", SiegePlate.UNKNOWN, -1000000001);
        CHECK.due("OUTSIDE", SiegePlate.OUTSIDE, -1000000002);
        CHECK.due("NOT", SiegePlate.NOT, -1000000003);
        CHECK.due("FULL", SiegePlate.FULL, -1000000004);
    }

    private static void members() {
        Set<String> methods = new TreeSet<>();
        for (Method m : SiegePlate.class.getDeclaredMethods()) {
            if (!Modifier.isPrivate(m.getModifiers())) {
                String types = String.join(",", Arrays.stream(m.getParameterTypes()).map(Class::getName).toList());
                methods.add(m.getName() + "(" + types + ")");
                CHECK.due(m + " is public", m.getModifiers(), Modifier.PUBLIC);
                CHECK.due(m + " answers int", m.getReturnType() == int.class ? 1 : 0, 1);
            }
        }
        CHECK.same("methods", methods.toString(), new TreeSet<>(List.of(METHODS)).toString());
        Set<String> fields = new TreeSet<>();
        for (Field f : SiegePlate.class.getDeclaredFields()) {
            if (!Modifier.isPrivate(f.getModifiers())) {
                fields.add(f.getName());
            }
        }
        CHECK.same("constants", fields.toString(), "[FULL, NONE, NOT, OUTSIDE, UNKNOWN]");
        Constructor<?>[] constructors = SiegePlate.class.getDeclaredConstructors();
        CHECK.due("constructors", constructors.length, 1);
        CHECK.due("of no parameters", constructors[0].getParameterCount(), 0);
        CHECK.due("public final", SiegePlate.class.getModifiers(), Modifier.PUBLIC | Modifier.FINAL);
    }

    private static List<Class<?>> classes() {
        List<Class<?>> all = new ArrayList<>(List.of(SiegePlate.class));
        all.addAll(List.of(SiegePlate.class.getDeclaredClasses()));
        return all;
    }

    /** Rule 1: no other method bears the name of a public one. */
    private static void names() {
        Set<String> open = new TreeSet<>();
        for (String m : METHODS) {
            open.add(m.substring(0, m.indexOf('(')));
        }
        for (Class<?> c : classes()) {
            for (Method m : c.getDeclaredMethods()) {
                boolean isPublic = c == SiegePlate.class && Modifier.isPublic(m.getModifiers());
                CHECK.due("the name of " + m + " is its own", !isPublic && open.contains(m.getName()) ? 1 : 0, 0);
            }
        }
    }

    /** Rules 2, 5 and 11. */
    private static void sizes() {
        CHECK.due("at most twelve classes", classes().size() > 12 ? 1 : 0, 0);
        for (Class<?> c : classes()) {
            int fields = 0;
            for (Field f : c.getDeclaredFields()) {
                boolean isStatic = Modifier.isStatic(f.getModifiers());
                fields += isStatic ? 0 : 1;
                CHECK.due(f + " is final if static", isStatic && !Modifier.isFinal(f.getModifiers()) ? 1 : 0, 0);
            }
            CHECK.due("at most twenty fields in " + c, fields > 20 ? 1 : 0, 0);
            CHECK.due(c + " is static", c == SiegePlate.class || Modifier.isStatic(c.getModifiers()) ? 1 : 0, 1);
            for (Method m : c.getDeclaredMethods()) {
                CHECK.due("at most seven parameters: " + m, m.getParameterCount() > 7 ? 1 : 0, 0);
            }
        }
    }

    /** Rules 1, 2, 4, 6 and 13, as far as words show them. */
    private static void source() throws IOException {
        String text = Files.readString(SOURCE);
        String code = text.replaceAll("(?s)/\\*.*?\\*/", "").replaceAll("//[^\n]*", "");
        String[] ruledOut = {"\\bthrow\\b", "\\btry\\b", "\\bcatch\\b", "\\bassert\\b", "\\bsynchronized\\b", "->", "::",
            "\\bimport\\b", "\\bpackage\\b", "\\bSystem\\b", "\\bObject\\b", "\\bThread\\b", "\\bRandom\\b", "Exact\\b",
            "\\bprotected\\b", "\\bequals\\b", "\\bhashCode\\b", "\\btoString\\b", "\\bvar\\b"};
        for (String word : ruledOut) {
            CHECK.due(word + " is ruled out", Pattern.compile(word).matcher(code).find() ? 1 : 0, 0);
        }
        for (int i = 0; i < text.length(); i++) {
            CHECK.due("sign " + i, text.charAt(i) < 128 ? 1 : 0, 1);
        }
    }

    /** Rule 12: an object takes little room, and all of it when it is made. */
    private static void room() throws Exception {
        SiegePlate x = new SiegePlate();
        int[] before = roomOf(x);
        CHECK.due(before[0] + " objects and arrays are few", before[0] > 300 ? 1 : 0, 0);
        CHECK.due(before[1] + " fields and elements are few", before[1] > 3000 ? 1 : 0, 0);
        Check.becomes(x, "t999 1;" + "c99 9 9;".repeat(5) + "m999 9 9;".repeat(4) + "g9;".repeat(6) + "h1 9;".repeat(4));
        for (int i = 0; i < 24; i++) {
            x.day(i % 4, 1);
            x.drift(3, 1);
            x.show(i % 4, 9, 9, 9);
            x.write(i % 5, 9);
            x.rations(5, 0);
            x.least(i % 6, i % 3);
            x.keep(i % 12 == 11 ? 1 : 2);
        }
        CHECK.same("room behind many calls", Arrays.toString(roomOf(x)), Arrays.toString(before));
    }

    /** How many objects and arrays hang on one, and how many fields and elements they have. */
    private static int[] roomOf(Object root) throws Exception {
        Set<Object> found = Collections.newSetFromMap(new IdentityHashMap<>());
        List<Object> open = new ArrayList<>(List.of(root));
        int cells = 0;
        while (!open.isEmpty()) {
            Object one = open.remove(open.size() - 1);
            if (!found.add(one)) {
                continue;
            }
            List<Object> parts = one.getClass().isArray() ? elementsOf(one) : valuesOf(one);
            cells += parts.size();
            for (Object part : parts) {
                if (part.getClass().isArray() || part.getClass().getName().startsWith("SiegePlate")) {
                    open.add(part);
                }
            }
        }
        return new int[] {found.size(), cells};
    }

    private static List<Object> elementsOf(Object array) {
        List<Object> parts = new ArrayList<>();
        for (int i = 0; i < Array.getLength(array); i++) {
            parts.add(Array.get(array, i));
        }
        return parts;
    }

    private static List<Object> valuesOf(Object one) throws Exception {
        List<Object> parts = new ArrayList<>();
        for (Field f : one.getClass().getDeclaredFields()) {
            if (!Modifier.isStatic(f.getModifiers())) {
                f.setAccessible(true);
                parts.add(f.get(one));
            }
        }
        return parts;
    }

    /** Any arguments in any state, also beyond the 512th call. */
    private static void anyCalls() throws Exception {
        List<Method> methods = new ArrayList<>();
        for (Method m : SiegePlate.class.getDeclaredMethods()) {
            if (Modifier.isPublic(m.getModifiers())) {
                methods.add(m);
            }
        }
        methods.sort((a, b) -> a.getName().compareTo(b.getName()));
        Random random = new Random(1618);
        String town = "t400 3;c20 2 3;c30 1 5;c9 9 9;c1 0 0;c0 1 1;m99 9 9;m9 1 0;m500 50 20;g1;g9;h0 9;h3 99;";
        for (int run = 0; run < 60; run++) {
            SiegePlate x = run % 4 == 0 ? new SiegePlate() : Check.townOf(town);
            for (int i = 0; i < 700; i++) {
                Method m = methods.get(random.nextInt(methods.size()));
                Object[] arguments = new Object[m.getParameterCount()];
                for (int k = 0; k < arguments.length; k++) {
                    arguments[k] = m.getParameterTypes()[k] == boolean.class ? (Object) random.nextBoolean() : anyNumber(random);
                }
                int answer = (Integer) m.invoke(x, arguments);
                CHECK.due(m.getName() + Arrays.toString(arguments) + " is none of the refusals' neighbours",
                    answer < -13 && (answer < SiegePlate.FULL || answer > SiegePlate.UNKNOWN) ? 1 : 0, 0);
            }
        }
    }

    private static Integer anyNumber(Random random) {
        return switch (random.nextInt(8)) {
            case 0 -> random.nextInt();
            case 1 -> -1 - random.nextInt(3);
            case 2 -> Integer.MIN_VALUE + random.nextInt(2);
            case 3 -> Integer.MAX_VALUE - random.nextInt(2);
            case 4 -> random.nextInt(256);
            default -> random.nextInt(6);
        };
    }
}
