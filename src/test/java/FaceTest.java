import java.io.IOException;
import java.lang.reflect.Constructor;
import java.lang.reflect.Field;
import java.lang.reflect.Method;
import java.lang.reflect.Modifier;
import java.nio.file.Files;
import java.nio.file.Path;
import java.util.Map;
import java.util.Set;
import java.util.TreeMap;
import java.util.TreeSet;
import java.util.regex.Matcher;
import java.util.regex.Pattern;

/** The public face of the document, and those rules of LANGUAGE.md that can be looked up in the source. */
public final class FaceTest {
    private static final String SOURCE = "src/main/java/StatueSquare.java";
    private static final String[] FACE = {
        "int square(int,int,int,int)", "int cellHas(int)", "int ofThing(int,int)", "int bench(int)",
        "int year(int,boolean)", "int cut(int,boolean)", "int price(int,int)", "int statue(int,int)",
        "int seen(int)", "int whole()", "int hidden(int)", "long sight(int)", "int best(int,int)",
        "int block(int,int)", "int cuts(int)", "int complaints()", "int moved(int)", "int years()",
        "long second()", "int lit(int)", "int sheet(int,int,int)", "int lose(int)", "int put(int,int,int)",
        "long cell(int,int,int)", "int copy(int,int,int,int,int)", "int tell(int)", "int tend(int)",
        "int as(int,int)", "int trace()", "int fault()", "int many(int)"};

    private static final Check check = new Check();

    public static void main(String[] args) throws IOException, IllegalAccessException {
        methods();
        constants();
        classes();
        source();
        check.end();
    }

    private static String told(Method m) {
        StringBuilder types = new StringBuilder();
        for (Class<?> type : m.getParameterTypes()) {
            types.append(types.length() == 0 ? "" : ",").append(type.getName());
        }
        return m.getReturnType().getName() + " " + m.getName() + "(" + types + ")";
    }

    private static void methods() {
        check.about("the face");
        Set<String> found = new TreeSet<>();
        Set<String> names = new TreeSet<>();
        for (Method m : StatueSquare.class.getDeclaredMethods()) {
            if (!Modifier.isPrivate(m.getModifiers())) {
                found.add(told(m));
                names.add(m.getName());
                check.isTrue(told(m) + " is public and no more", m.getModifiers() == Modifier.PUBLIC);
            }
        }
        for (Method m : StatueSquare.class.getDeclaredMethods()) {
            if (Modifier.isPrivate(m.getModifiers())) {
                check.isTrue(m.getName() + " bears no public name", !names.contains(m.getName()));
            }
        }
        for (Class<?> inside : StatueSquare.class.getDeclaredClasses()) {
            for (Method m : inside.getDeclaredMethods()) {
                check.isTrue(m + " bears no public name", !names.contains(m.getName()));
                check.isTrue(m + " takes at most seven", m.getParameterCount() <= 7);
            }
        }
        check.isTrue("methods " + found, found.equals(new TreeSet<>(Set.of(FACE))));
        Constructor<?>[] made = StatueSquare.class.getDeclaredConstructors();
        check.isTrue("one public constructor without parameters", made.length == 1
            && Modifier.isPublic(made[0].getModifiers()) && made[0].getParameterCount() == 0);
        int mods = StatueSquare.class.getModifiers();
        check.isTrue("public final", Modifier.isPublic(mods) && Modifier.isFinal(mods));
    }

    private static void constants() throws IllegalAccessException {
        check.about("constants");
        Map<String, Object> want = new TreeMap<>(Map.of(
            "UNKNOWN", -1, "OUTSIDE", -2, "STATE", -3, "FULL", -4, "NONE", -9, "LOST", Long.MIN_VALUE));
        Map<String, Object> found = new TreeMap<>();
        for (Field f : StatueSquare.class.getDeclaredFields()) {
            if (!Modifier.isPrivate(f.getModifiers())) {
                int mods = Modifier.PUBLIC | Modifier.STATIC | Modifier.FINAL;
                check.isTrue(f.getName() + " is a constant", f.getModifiers() == mods);
                found.put(f.getName(), f.get(null));
            }
        }
        check.isTrue("constants " + found, found.equals(want));
    }

    private static void classes() {
        check.about("classes inside");
        Class<?>[] inside = StatueSquare.class.getDeclaredClasses();
        check.isTrue("at most twelve", inside.length < 12);
        for (Class<?> c : inside) {
            check.isTrue(c.getName() + " is static", Modifier.isStatic(c.getModifiers()));
            check.isTrue(c.getName() + " is not public", !Modifier.isPublic(c.getModifiers()));
            int fields = 0;
            for (Field f : c.getDeclaredFields()) {
                boolean fixed = Modifier.isStatic(f.getModifiers());
                check.isTrue(f + " is final if static", !fixed || Modifier.isFinal(f.getModifiers()));
                fields += fixed ? 0 : 1;
            }
            check.isTrue(c.getName() + " has at most twenty fields", fields <= 20);
        }
    }

    private static void source() throws IOException {
        check.about("LANGUAGE.md");
        String source = Files.readString(Path.of(SOURCE));
        String code = source.replaceAll("(?s)/\\*.*?\\*/", "").replaceAll("//[^\n]*", "");
        String[] ruledOut = {"\\bthrow\\b", "\\btry\\b", "\\bcatch\\b", "\\bsynchronized\\b", "\\bassert\\b",
            "\\bimport\\b", "\\bpackage\\b", "->", "::", "\\w+Exact\\b", "\\bprotected\\b", "\\bthread\\b",
            "\\bRandom\\b", "\\bcurrentTimeMillis\\b", "\\bnanoTime\\b"};
        for (String word : ruledOut) {
            Matcher m = Pattern.compile(word).matcher(code);
            check.isTrue("no " + word, !m.find());
        }
        check.isTrue("signs 1 to 127", source.chars().allMatch(s -> s > 0 && s < 128));
        rowsAreMadeInConstructors(code);
    }

    /** All calls of a run live in one room: so no call makes anything. */
    private static void rowsAreMadeInConstructors(String code) {
        String method = "";
        Pattern head = Pattern.compile("^ +(?:public |private |static )*(?:[\\w\\[\\]]+ )?(\\w+)\\([^;]*\\) \\{$");
        for (String line : code.split("\n")) {
            Matcher m = head.matcher(line);
            if (m.matches() && !Set.of("if", "for", "switch").contains(m.group(1))) {
                method = m.group(1);
            }
            if (Pattern.compile("\\bnew\\b").matcher(line).find()) {
                check.isTrue("made in a constructor: " + line.trim(), Character.isUpperCase(method.charAt(0)));
            }
        }
    }
}
