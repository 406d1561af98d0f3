import java.lang.management.ManagementFactory;
import java.lang.reflect.Constructor;
import java.lang.reflect.Field;
import java.lang.reflect.Method;
import java.lang.reflect.Modifier;
import java.nio.charset.StandardCharsets;
import java.nio.file.Files;
import java.nio.file.Path;
import java.util.ArrayList;
import java.util.List;
import java.util.Set;
import java.util.TreeSet;
import java.util.regex.Matcher;
import java.util.regex.Pattern;

/** What of LANGUAGE.md can be seen from outside: the face, the words of the source, sizes, what calls make. */
public final class LanguageTest {
    private static final String[] FACE = {"begin(int,int,int,int)boolean", "press(int,int,int,int)int", "cell(int,int,int)int",
        "scratch(int,int)int", "edge(int,int,int)int", "feed(int,int,int,int,int)int", "end(int)int", "law()int", "want()int",
        "tick(int,int)int", "rain(int,int)int", "tear(int,int)int", "room(int,int)int", "count(int)int", "met(int)int",
        "round()int", "rounds(int,int)int", "around(int)int", "older(int,int)int", "order(int)int", "rank(int)int",
        "wide(int)int", "ahead(int,int,int)int", "half(int,int,int)int", "miss(int,int)int", "likeliest(int)int",
        "candidate(int,int,int)boolean", "lead(int,int,int)int", "slow(int,int)int", "whole(int,int)int", "much(int,int)int",
        "finger(int)int", "image(int)int", "back(int)int"};
    private static int wrong = 0;

    private static void holds(String what, boolean so) {
        if (!so) {
            wrong++;
            System.out.println("not so: " + what);
        }
    }

    private static void face() {
        Class<?> c = CrackedMud.class;
        holds("public and final", Modifier.isPublic(c.getModifiers()) && Modifier.isFinal(c.getModifiers()));
        Set<String> found = new TreeSet<>();
        Set<String> names = new TreeSet<>();
        for (Method m : c.getDeclaredMethods()) {
            if (!Modifier.isPrivate(m.getModifiers())) {
                StringBuilder b = new StringBuilder(m.getName()).append('(');
                for (int k = 0; k < m.getParameterCount(); k++) b.append(k > 0 ? "," : "").append(m.getParameterTypes()[k]);
                found.add(b.append(')').append(m.getReturnType()).toString());
                names.add(m.getName());
                holds(m + " is public and no more", m.getModifiers() == Modifier.PUBLIC);
            }
        }
        holds("the face " + found, found.equals(new TreeSet<>(List.of(FACE))));
        for (Constructor<?> k : c.getDeclaredConstructors()) holds("one constructor", k.getParameterCount() == 0 && Modifier.isPublic(k.getModifiers()));
        for (Field f : c.getDeclaredFields()) {
            holds(f + " is private", Modifier.isPrivate(f.getModifiers()) || f.getName().equals("NONE"));
            holds(f + " is final if it is static", !Modifier.isStatic(f.getModifiers()) || Modifier.isFinal(f.getModifiers()));
        }
        for (Method m : c.getDeclaredMethods()) {
            if (Modifier.isPrivate(m.getModifiers())) holds(m + " has a name of its own", !names.contains(m.getName()));
        }
        holds("some twelve classes", c.getDeclaredClasses().length <= 11);
        for (Class<?> inner : c.getDeclaredClasses()) {
            holds(inner + " is static", Modifier.isStatic(inner.getModifiers()) && !Modifier.isPublic(inner.getModifiers()));
            for (Method m : inner.getDeclaredMethods()) {
                holds(m + " has a name of its own", !names.contains(m.getName()));
                holds(m + " has seven parameters at most", m.getParameterCount() <= 7);
            }
            holds(inner + " has twenty fields at most", inner.getDeclaredFields().length <= 20);
        }
    }

    private static void words(String source) {
        String code = source.replaceAll("(?s)/\\*.*?\\*/", "").replaceAll("//[^\n]*", "").replaceAll("\"[^\"]*\"", "\"\"");
        for (String word : new String[] {"throw", "throws", "try", "catch", "finally", "synchronized", "assert", "double", "float",
            "instanceof", "Object", "Random", "Thread", "Exception", "volatile", "native", "goto", "var", "record", "lambda"}) {
            holds("no " + word, !Pattern.compile("\\b" + word + "\\b").matcher(code).find());
        }
        holds("no arrow", !code.contains("->") && !code.contains("::"));
        Matcher calls = Pattern.compile("\\b(System|Math|Arrays|Integer|Long|String|StringBuilder)\\.(\\w+)").matcher(code);
        Set<String> allowed = Set.of("System.arraycopy", "Math.max", "Math.min", "Math.abs", "Math.floorDiv", "Math.floorMod",
            "Arrays.fill", "Arrays.copyOf", "Arrays.copyOfRange", "Integer.compare", "Integer.bitCount", "Long.bitCount");
        while (calls.find()) holds("allowed: " + calls.group(), allowed.contains(calls.group()));
        Matcher imports = Pattern.compile("(?m)^import .*$").matcher(code);
        while (imports.find()) holds(imports.group(), imports.group().equals("import java.util.Arrays;"));
        holds("no package", !Pattern.compile("(?m)^package ").matcher(code).find());
        for (char sign : source.toCharArray()) {
            if (sign > 126) {
                holds("signs up to 126", false);
                return;
            }
        }
    }

    private static void lengths(String source) {
        String[] lines = source.split("\n");
        int start = -1;
        for (int k = 0; k < lines.length; k++) {
            boolean opens = lines[k].matches("( {4}| {8})(public |private |static |final )*[\\w\\[\\]]+( \\w+)?\\(.*\\{");
            if (opens) start = k;
            if (start >= 0 && lines[k].matches("( {4}| {8})\\}") && lines[k].indexOf('}') == indent(lines[start])) {
                holds("short: " + lines[start].trim(), k - start <= 60);
                start = -1;
            }
        }
    }

    private static int indent(String line) { return line.length() - line.stripLeading().length(); }

    private static void tell(CrackedMud x, String text) {
        for (int at = 0; at < text.length(); at += 20) {
            int[] n = new int[5];
            for (int k = 0; k < 20; k++) n[k / 4] |= (at + k < text.length() ? text.charAt(at + k) : 0) << 24 - k % 4 * 8;
            x.feed(n[0], n[1], n[2], n[3], n[4]);
        }
        x.end(text.length());
    }

    private static int all(CrackedMud x) {
        int sum = x.cell(3, 3, 7) + x.edge(0, 5, 6) + x.edge(0, 5, 7) + x.press(1, 1, 4, 3) + x.scratch(5, 5) + x.tick(0, 3)
            + x.rain(0, 10) + x.tear(0, 1) + x.room(0, 1) + x.count(7) + x.met(0) + x.round() + x.rounds(0, 6) + x.around(0)
            + x.older(0, 1) + x.order(1) + x.rank(0) + x.wide(0) + x.ahead(0, 20, 0) + x.half(0, 20, 7) + x.miss(0, 0)
            + x.likeliest(0) + x.lead(0, 0, 5) + x.slow(0, 5) + x.whole(0, 5) + x.much(0, 3) + x.finger(1) + x.image(0) + x.back(0);
        sum += x.feed(1, 2, 3, 4, 5) + x.law() + x.want() + (x.candidate(0, 5, 9) ? 1 : 0) + (x.begin(2, 5, 300, 700) ? 1 : 0) + x.tick(0, 9);
        return sum;
    }

    /** The calls make nothing, but for a law, a want, and an image's first time. */
    private static void makes() {
        com.sun.management.ThreadMXBean threads = (com.sun.management.ThreadMXBean) ManagementFactory.getThreadMXBean();
        long id = Thread.currentThread().getId();
        CrackedMud x = new CrackedMud();
        tell(x, "dry 40 + salt if not [x = 3 and y = 3];dry 10;tear x;notch 500;most 3");
        holds("a law", x.law() == 0);
        tell(x, "want rooms > 99");
        holds("a want", x.want() == 0);
        x.begin(3, 5, 300, 700);
        int sum = all(x);
        long before = threads.getThreadAllocatedBytes(id);
        for (int k = 0; k < 30; k++) sum += all(x);
        long made = threads.getThreadAllocatedBytes(id) - before;
        holds("30 times all calls make less than 4096 bytes, not " + made + " (" + sum + ")", made < 4096);
        before = threads.getThreadAllocatedBytes(id);
        List<CrackedMud> kept = new ArrayList<>();
        for (int k = 0; k < 10; k++) kept.add(new CrackedMud());
        made = (threads.getThreadAllocatedBytes(id) - before) / kept.size();
        holds("an object is of less than 100000 bytes, not " + made, made < 100000);
    }

    public static void main(String[] args) throws Exception {
        String source = Files.readString(Path.of("src/main/java/CrackedMud.java"), StandardCharsets.ISO_8859_1);
        face();
        words(source);
        lengths(source);
        makes();
        System.out.println(wrong == 0 ? "the language is kept to" : wrong + " rules are not kept to");
        if (wrong > 0) System.exit(1);
    }
}
