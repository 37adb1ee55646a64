import java.lang.reflect.Constructor;
import java.lang.reflect.Field;
import java.lang.reflect.Method;
import java.lang.reflect.Modifier;
import java.nio.file.Files;
import java.nio.file.Path;
import java.util.ArrayList;
import java.util.Arrays;
import java.util.List;
import java.util.Map;
import java.util.TreeMap;
import java.util.TreeSet;
import java.util.regex.Matcher;
import java.util.regex.Pattern;

/** The document's face, and those rules of LANGUAGE.md that can be read off the file or the class. */
public final class LanguageTest {
    private static final Path FILE = Path.of("src/main/java/CreditShelf.java");
    private static final Path DOCUMENT = Path.of("../shared/DOC.md");
    private static final int DEEPEST = 8;

    private static final String[] FACE = {"int letter(int)", "int blank()", "int fault()", "int shelf()", "int entry(int,int)",
        "int as(int,int)", "int at(int)", "int next(int)", "int put(int,int,int)", "int take(int)", "int tell(int)",
        "int flatten()", "int ledger(int)", "int would(int)", "int dear(int)", "int replay(int,int,int)", "int ahead()",
        "int see(int,int,boolean)", "int forget()", "int sorts(int,int)", "int drawn(int,int,int)", "int image()",
        "int restore()", "int count(int)", "long digest()"};

    private static final String[] FORBIDDEN = {"\\bthrows?\\b", "\\btry\\b", "\\bcatch\\b", "\\bfinally\\b", "\\bsynchronized\\b",
        "\\bassert\\b", "\\bpackage\\b", "\\bprotected\\b", "\\bvolatile\\b", "\\bnative\\b", "->", "::", "\\bException\\b",
        "\\bSystem\\.(?!arraycopy\\b)", "\\bMath\\.\\w+Exact\\b", "\\bstatic\\s*\\{", "\\bRandom\\b", "\\bThread\\b",
        "\\bvar\\b", "\\bObject\\b", "@"};

    private LanguageTest() {
    }

    private static String signature(Method m) {
        StringBuilder s = new StringBuilder(m.getReturnType().getName()).append(' ').append(m.getName()).append('(');
        Class<?>[] types = m.getParameterTypes();
        for (int i = 0; i < types.length; i++) {
            s.append(i == 0 ? "" : ",").append(types[i].getName());
        }
        return s.append(')').toString();
    }

    private static void face() {
        TreeSet<String> seen = new TreeSet<>();
        TreeSet<String> publicNames = new TreeSet<>();
        for (Method m : CreditShelf.class.getDeclaredMethods()) {
            if (Modifier.isPublic(m.getModifiers())) {
                seen.add(signature(m));
                publicNames.add(m.getName());
            }
        }
        Check.holds("the public methods are the document's: " + seen, seen.equals(new TreeSet<>(Arrays.asList(FACE))));
        for (Method m : CreditShelf.class.getDeclaredMethods()) {
            int bits = m.getModifiers();
            Check.holds(m + " is public or private", Modifier.isPublic(bits) || Modifier.isPrivate(bits));
            Check.holds(m + " has a name of its own", Modifier.isPublic(bits) || !publicNames.contains(m.getName()));
        }
        TreeSet<String> constants = new TreeSet<>();
        for (Field f : CreditShelf.class.getDeclaredFields()) {
            int bits = f.getModifiers();
            if (Modifier.isPublic(bits)) {
                constants.add(f.getName());
                Check.holds(f + " is an int", f.getType() == int.class);
                Check.holds(f + " is a constant", Modifier.isStatic(bits) && Modifier.isFinal(bits));
            } else {
                Check.holds(f + " is private", Modifier.isPrivate(bits));
            }
        }
        Check.holds("the constants are the document's: " + constants,
                constants.equals(new TreeSet<>(List.of("NONE", "UNKNOWN", "OUTSIDE", "STATE", "FULL"))));
        Constructor<?>[] made = CreditShelf.class.getDeclaredConstructors();
        Check.holds("one public constructor", made.length == 1 && Modifier.isPublic(made[0].getModifiers()));
        Check.holds("public and final", Modifier.isPublic(CreditShelf.class.getModifiers())
                && Modifier.isFinal(CreditShelf.class.getModifiers()));
    }

    /** The face as the document has it, line by line and in its order, with the numbers of the constants. */
    private static void faceOfTheDocument(String document, String source) {
        int from = document.indexOf("public final class CreditShelf {");
        Check.holds("the document has a face", from >= 0);
        int place = 0;
        for (String line : document.substring(Math.max(from, 0), document.indexOf("```", Math.max(from, 0))).split("\n")) {
            String wanted = line.replaceFirst("\\);$", ") {").strip();
            if (!wanted.equals("}")) {
                int found = source.indexOf(wanted, place);
                Check.holds("the file has, in the document's order: " + wanted, found >= place);
                place = Math.max(found, place);
            }
        }
    }

    /** "Ahead of the calls ... the interface says: ---- the shelf", and so on. */
    private static void headings(String document, String source) {
        Matcher m = Pattern.compile("Ahead of the calls (`.*`) the interface says: (---- [a-z ]*)\\.").matcher(document);
        int found = 0;
        while (m.find()) {
            found++;
            int from = source.indexOf("// " + m.group(2) + "\n");
            Check.holds("the file says " + m.group(2), from >= 0);
            for (String name : m.group(1).replace("`", "").split(", ")) {
                Matcher call = Pattern.compile("public (int|long) " + name + "\\(").matcher(source);
                boolean there = call.find();
                Check.holds(name + " stands behind " + m.group(2), there && call.start() > from
                        && !source.substring(Math.max(from + 3, 0), call.start()).contains("// ----"));
            }
        }
        Check.due("headings of the document", found, 5);
    }

    private static List<Class<?>> all() {
        List<Class<?>> classes = new ArrayList<>(List.of(CreditShelf.class.getDeclaredClasses()));
        classes.add(CreditShelf.class);
        return classes;
    }

    private static void classes() {
        Check.holds("some twelve classes", all().size() <= 12);
        for (Class<?> c : all()) {
            int fields = 0;
            for (Field f : c.getDeclaredFields()) {
                if (Modifier.isStatic(f.getModifiers())) {
                    Check.holds(f + " is final", Modifier.isFinal(f.getModifiers()));
                } else {
                    fields++;
                }
            }
            Check.holds(c + " has some twenty fields", fields <= 20);
            for (Method m : c.getDeclaredMethods()) {
                Check.holds(m + " has seven parameters at most", m.getParameterCount() <= 7);
                Check.holds(m + " is none of an object's own", !List.of("equals", "hashCode", "toString").contains(m.getName()));
            }
            if (c != CreditShelf.class) {
                inside(c);
            }
        }
    }

    /** A class inside is static and not public, and no method of it bears the name of a public one. */
    private static void inside(Class<?> c) {
        int bits = c.getModifiers();
        Check.holds(c + " is static", Modifier.isStatic(bits));
        Check.holds(c + " is private or package-visible", !Modifier.isPublic(bits) && !Modifier.isProtected(bits));
        for (Method m : c.getDeclaredMethods()) {
            for (String face : FACE) {
                Check.holds(m + " has a name of its own", !face.contains(" " + m.getName() + "("));
            }
        }
    }

    /** Which methods of the file each of its methods calls, by their names; like names count as one. */
    private static Map<String, TreeSet<String>> callsOf(String code) {
        Map<String, TreeSet<String>> calls = new TreeMap<>();
        Map<String, String> bodies = new TreeMap<>();
        Matcher m = Pattern.compile("(?ms)^( {4}| {8})(?:[a-z]+ )*?[a-z\\[\\]]+ (\\w+)\\([^)]*\\) \\{$(.*?)^\\1\\}").matcher(code);
        while (m.find()) {
            bodies.merge(m.group(2), m.group(3), String::concat);
        }
        for (String name : bodies.keySet()) {
            TreeSet<String> called = new TreeSet<>();
            Matcher call = Pattern.compile("\\b(\\w+)\\(").matcher(bodies.get(name));
            while (call.find()) {
                if (bodies.containsKey(call.group(1)) && !call.group(1).equals(name)) {
                    called.add(call.group(1));
                }
            }
            calls.put(name, called);
        }
        return calls;
    }

    /** How deep calls go from a method, itself with them; a ring of calls comes out far too deep. */
    private static int deep(Map<String, TreeSet<String>> calls, String name, int above) {
        int deepest = 1;
        for (String called : calls.get(name)) {
            if (above <= DEEPEST) {
                deepest = Math.max(deepest, 1 + deep(calls, called, above + 1));
            }
        }
        return deepest;
    }

    private static void callsAreNotTooDeep(String code) {
        Map<String, TreeSet<String>> calls = callsOf(code);
        for (String face : FACE) {
            String name = face.substring(face.indexOf(' ') + 1, face.indexOf('('));
            Check.holds("the file has " + name, calls.containsKey(name));
            Check.holds(name + " goes eight deep at most", calls.containsKey(name) && deep(calls, name, 1) <= DEEPEST);
        }
    }

    /** The file without what is said in comments and texts. */
    private static String bare(String source) {
        return source.replaceAll("(?s)/\\*.*?\\*/", "").replaceAll("//[^\n]*", "").replaceAll("\"(\\\\.|[^\"\\\\])*\"", "\"\"");
    }

    private static void source() throws Exception {
        String source = Files.readString(FILE);
        String code = bare(source);
        String document = Files.readString(DOCUMENT);
        faceOfTheDocument(document, source);
        headings(document, source);
        callsAreNotTooDeep(code);
        for (String forbidden : FORBIDDEN) {
            Matcher m = Pattern.compile(forbidden).matcher(code);
            Check.holds("the file has no " + forbidden, !m.find());
        }
        Matcher imports = Pattern.compile("import ([^;]*);").matcher(code);
        while (imports.find()) {
            Check.holds("import " + imports.group(1), imports.group(1).matches("java\\.util\\.(Arrays|ArrayList|List|Iterator)"));
        }
        Check.holds("signs of 1 to 127 alone", source.chars().allMatch(c -> c > 0 && c < 128));
        int begun = 0;
        String[] lines = source.split("\n");
        for (int i = 0; i < lines.length; i++) {
            if (lines[i].matches(" {4}( {4})?[a-z].*\\) \\{")) {
                begun = i;
            } else if (lines[i].matches(" {4}( {4})?\\}")) {
                Check.holds("a method of some sixty lines ends at line " + (i + 1), i - begun <= 60 || begun == 0);
            }
        }
    }

    public static void main(String[] args) throws Exception {
        face();
        classes();
        source();
        Check.end("LanguageTest");
    }
}
