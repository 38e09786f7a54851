import java.io.IOException;
import java.lang.reflect.Constructor;
import java.lang.reflect.Field;
import java.lang.reflect.Method;
import java.lang.reflect.Modifier;
import java.nio.file.Files;
import java.nio.file.Path;
import java.util.ArrayList;
import java.util.List;
import java.util.Set;
import java.util.TreeSet;
import java.util.regex.Matcher;
import java.util.regex.Pattern;

/** The face of the document, and what of LANGUAGE.md can be read off the class and its source. */
public final class LanguageTest {
    private static final String FACE = "citizen/1 of/2 change/3 rule/2 now/1 wants/1 swap/2 gates/0 changes/0 "
            + "buy/3 welfare/0 most/0 price/0 weeks/1 ahead/2 riot/0 next/1 loaves/1 cheapest/1 leader/1 "
            + "colourFor/2 kindFor/2 stale/1 bound/1 law/2 ways/0 eats/1 busy/1 famine/1 seed/1 feed/2 wipe/0 "
            + "text/0 hold/2 as/2 sheet/3 write/3 copy/5 load/1 tally/1 judge/1 image/0 undo/0 tear/0 count/1 "
            + "status/1";
    private static final Set<String> LONGS = Set.of("ways", "eats", "busy", "tally");

    public static void main(String[] args) throws IOException {
        face();
        namesOfTheFace();
        fields();
        if (args.length > 0) {
            source(Files.readString(Path.of(args[0])));
        }
        Checks.end("LanguageTest");
    }

    private static void face() {
        Set<String> got = new TreeSet<>();
        for (Method m : BreadGames.class.getDeclaredMethods()) {
            if (m.isSynthetic() || Modifier.isPrivate(m.getModifiers())) {
                continue;
            }
            got.add(m.getName() + "/" + m.getParameterCount());
            Checks.due(m + " is public alone", m.getModifiers(), Modifier.PUBLIC);
            Checks.holds(m + " answers", m.getReturnType() == (LONGS.contains(m.getName()) ? long.class : int.class));
            for (Class<?> p : m.getParameterTypes()) {
                Checks.holds(m + " takes ints", p == int.class);
            }
        }
        Checks.holds("the face: " + got, got.equals(new TreeSet<>(List.of(FACE.split(" ")))));
        Constructor<?>[] makers = BreadGames.class.getDeclaredConstructors();
        Checks.due("one constructor", makers.length, 1);
        Checks.due("of nothing", makers[0].getParameterCount(), 0);
        Checks.due("public final", BreadGames.class.getModifiers(), Modifier.PUBLIC | Modifier.FINAL);
    }

    private static void namesOfTheFace() {
        Set<String> names = new TreeSet<>();
        for (String m : FACE.split(" ")) {
            names.add(m.substring(0, m.indexOf('/')));
        }
        List<Class<?>> classes = new ArrayList<>(List.of(BreadGames.class.getDeclaredClasses()));
        Checks.holds("classes inside: " + classes.size(), classes.size() <= 11);
        classes.add(BreadGames.class);
        for (Class<?> c : classes) {
            for (Method m : c.getDeclaredMethods()) {
                boolean ofFace = c == BreadGames.class && Modifier.isPublic(m.getModifiers());
                Checks.holds(m + " bears no name of the face", ofFace || !names.contains(m.getName()));
                Checks.holds(m + " takes seven at most", m.getParameterCount() <= 7);
            }
        }
    }

    private static void fields() {
        List<Class<?>> classes = new ArrayList<>(List.of(BreadGames.class.getDeclaredClasses()));
        classes.add(BreadGames.class);
        for (Class<?> c : classes) {
            int own = 0;
            for (Field f : c.getDeclaredFields()) {
                boolean isStatic = Modifier.isStatic(f.getModifiers());
                own += isStatic ? 0 : 1;
                Checks.holds(f + " is final", !isStatic || Modifier.isFinal(f.getModifiers()));
                Checks.holds(f + " is private", c != BreadGames.class || Modifier.isPrivate(f.getModifiers()));
            }
            Checks.holds(c + " has some twenty fields at most", own <= 20);
            Checks.holds(c + " is static", c == BreadGames.class || Modifier.isStatic(c.getModifiers()));
        }
    }

    private static void source(String text) {
        String code = text.replaceAll("(?s)/\\*.*?\\*/", " ").replaceAll("//[^\n]*", " ")
                .replaceAll("\"[^\"\n]*\"", "TEXT").replaceAll("'.'", "0");
        String[] ruledOut = {"\\bthrow\\b", "\\bthrows\\b", "\\btry\\b", "\\bcatch\\b", "\\bfinally\\b",
            "\\bsynchronized\\b", "\\bassert\\b", "\\bimport\\b", "\\bpackage\\b", "->", "::", "\\bprotected\\b",
            "\\bdouble\\b", "\\bfloat\\b", "\\bnative\\b", "\\bThread\\b", "\\bObject\\b", "\\bequals\\b",
            "\\bhashCode\\b", "\\btoString\\b", "TEXT\\s*\\+", "\\+\\s*TEXT", "Exact\\(", "\\bvar\\b", "\\bint\\.\\.\\."};
        for (String word : ruledOut) {
            Checks.holds(word + " is ruled out", !Pattern.compile(word).matcher(code).find());
        }
        Matcher calls = Pattern.compile("\\b([A-Z][a-z]\\w*)\\.(\\w+)").matcher(code);
        Set<String> library = Set.of("Math.min", "Math.max", "Integer.bitCount", "System.arraycopy");
        while (calls.find()) {
            String owner = calls.group(1);
            boolean own = owner.equals("City") || owner.equals("Tape") || owner.equals("Sheet");
            Checks.holds(calls.group() + " is of the library that is allowed", own || library.contains(calls.group()));
        }
        lengths(text);
        for (int i = 0; i < text.length(); i++) {
            char sign = text.charAt(i);
            Checks.holds("sign " + (int) sign, sign == '\n' || sign >= ' ' && sign < 127);
        }
    }

    /** A method ends with the brace that stands as far in as its head. */
    private static void lengths(String text) {
        String[] lines = text.split("\n");
        Pattern head = Pattern.compile("^( {4}| {8})[a-zA-Z].*\\) \\{$");
        for (int i = 0; i < lines.length; i++) {
            Matcher m = head.matcher(lines[i]);
            if (m.matches() && !lines[i].contains(" class ")) {
                int end = i;
                while (end < lines.length && !lines[end].equals(m.group(1) + "}")) {
                    end++;
                }
                Checks.holds("sixty lines at most: " + lines[i], end - i < 60);
            }
        }
    }
}
