import java.lang.reflect.Array;
import java.lang.reflect.Constructor;
import java.lang.reflect.Executable;
import java.lang.reflect.Field;
import java.lang.reflect.Member;
import java.lang.reflect.Method;
import java.lang.reflect.Modifier;
import java.nio.file.Files;
import java.nio.file.Path;
import java.util.ArrayList;
import java.util.Collections;
import java.util.IdentityHashMap;
import java.util.List;
import java.util.Map;
import java.util.Set;
import java.util.TreeMap;
import java.util.TreeSet;
import java.util.regex.Matcher;
import java.util.regex.Pattern;

/** The face is the document's and no wider, and the file keeps to what of LANGUAGE.md can be seen in its text. */
final class FaceTest {
    private static int wrong = 0;

    private static void complain(String what) {
        wrong++;
        System.out.println(what);
    }

    public static void main(String[] args) throws Exception {
        Path doc = Path.of(args[0]);
        Path source = Path.of(args[1]);
        compareFace(doc);
        lookAtMembers();
        String text = Files.readString(source);
        lookAtText(text);
        lookAtCalls(methodsOf(codeOf(text)));
        lookAtRoom();
        System.out.println("FaceTest: " + wrong + " complaints");
        if (wrong != 0) System.exit(1);
    }

    private static void compareFace(Path doc) throws Exception {
        Set<String> due = new TreeSet<>();
        Matcher m = Pattern.compile("(?m)^    public ([^;]*);").matcher(Files.readString(doc));
        while (m.find()) due.add(m.group(1).replaceAll("(\\w+) \\w+(?=[,)])", "$1").replaceAll(" throws.*| = .*", ""));
        Set<String> got = new TreeSet<>();
        for (Constructor<?> c : StrangerMarket.class.getConstructors()) got.add("StrangerMarket(" + types(c) + ")");
        for (Method f : StrangerMarket.class.getDeclaredMethods()) {
            if (Modifier.isPublic(f.getModifiers())) got.add(f.getReturnType().getSimpleName() + " " + f.getName() + "(" + types(f) + ")");
        }
        for (Field f : StrangerMarket.class.getFields()) got.add("static final int " + f.getName());
        if (due.size() < 30 || !due.equals(got)) complain("the face is " + got + ", due is " + due);
    }

    private static String types(Executable of) {
        List<String> names = new ArrayList<>();
        for (Class<?> c : of.getParameterTypes()) names.add(c.getSimpleName());
        return String.join(", ", names);
    }

    private static void lookAtMembers() {
        Set<String> face = new TreeSet<>();
        List<Member> members = new ArrayList<>(List.of(StrangerMarket.class.getDeclaredMethods()));
        for (Member m : members) if (Modifier.isPublic(m.getModifiers())) face.add(m.getName());
        members.addAll(List.of(StrangerMarket.class.getDeclaredFields()));
        for (Member m : members) {
            if (m.isSynthetic()) continue;
            int flags = m.getModifiers();
            if (!Modifier.isPublic(flags) && !Modifier.isPrivate(flags)) complain(m.getName() + " can be seen");
        }
        if (!Modifier.isFinal(StrangerMarket.class.getModifiers())) complain("the class is not final");
        Class<?>[] inside = StrangerMarket.class.getDeclaredClasses();
        if (inside.length > 12) complain(inside.length + " classes inside");
        for (Class<?> c : inside) {
            for (Method f : c.getDeclaredMethods()) {
                if (face.contains(f.getName())) complain(c.getSimpleName() + "." + f.getName() + " bears a name of the face");
                if (f.getParameterCount() > 7) complain(f.getName() + " has too many parameters");
            }
            int fields = 0;
            for (Field f : c.getDeclaredFields()) if (!Modifier.isStatic(f.getModifiers())) fields++;
            if (fields > 20) complain(c.getSimpleName() + " has " + fields + " fields");
        }
    }

    /** The source without comments and without what stands in its texts. */
    private static String codeOf(String text) {
        return text.replaceAll("(?s)/\\*.*?\\*/", "").replaceAll("//[^\n]*", "").replaceAll("\"[^\"\n]*\"", "\"\"");
    }

    private static void lookAtText(String text) {
        String code = codeOf(text);
        String[] barred = {"->", "::", "\\btry\\b", "\\bcatch\\b", "\\bfinally\\b", "\\bassert\\b", "\\bsynchronized\\b",
            "\\bpackage\\b", "\\bprotected\\b", "\\bSystem\\.(?!arraycopy)", "\\bThread\\b", "\\bRandom\\b", "Exact\\(",
            "\"\" *\\+", "\\+ *\"\"", "static \\{", "\\binstanceof\\b", "\\bvar\\b", "hashCode", "toString", "\\bObject\\b"};
        for (String b : barred) {
            if (Pattern.compile(b).matcher(code).find()) complain("the source has " + b);
        }
        Matcher imports = Pattern.compile("(?m)^import (.*);").matcher(code);
        while (imports.find()) {
            if (!Set.of("java.util.Arrays", "java.util.NoSuchElementException").contains(imports.group(1))) complain("import " + imports.group(1));
        }
        for (int i = 0; i < text.length(); i++) {
            if (text.charAt(i) > 126) complain("a sign above 126 at " + i);
        }
    }

    /** Bodies by name; methods of one name in several classes stand together, which only makes rows of calls longer. */
    private static Map<String, String> methodsOf(String code) {
        Matcher m = Pattern.compile("(?ms)^( {4}| {8})(?:[\\w\\[\\]]+ )*(\\w+)\\([^)]*\\)[^;{]*\\{$(.*?)^\\1\\}").matcher(code);
        Map<String, String> bodies = new TreeMap<>();
        int found = 0;
        while (m.find()) {
            found++;
            String name = m.group(2);
            String body = m.group(3);
            bodies.merge(name, body, String::concat);
            if (body.lines().count() > 60) complain(name + " has " + body.lines().count() + " lines");
            boolean isConstructor = Character.isUpperCase(name.charAt(0));
            if (!isConstructor && Pattern.compile("(?<!throw )\\bnew\\b").matcher(body).find()) complain(name + " makes an object");
        }
        if (found < 150) complain("only " + found + " methods found");
        return bodies;
    }

    /** Rules 8 and 11: only ONES within one another call themselves; all other rows of calls are at most eight long. */
    private static void lookAtCalls(Map<String, String> bodies) {
        Set<String> again = new TreeSet<>();
        for (String name : bodies.keySet()) {
            List<String> row = longestRow(name, bodies, new ArrayList<>(), again);
            if (row.size() > 8) complain("calls go deep: " + row);
        }
        if (!again.equals(Set.of("readCond", "readOne"))) complain("methods that come back to themselves: " + again);
    }

    private static List<String> longestRow(String name, Map<String, String> bodies, List<String> open, Set<String> again) {
        List<String> longest = new ArrayList<>();
        open.add(name);
        Matcher calls = Pattern.compile("(\\w+)\\(").matcher(bodies.getOrDefault(name, ""));
        while (calls.find()) {
            String called = calls.group(1);
            if (Set.of("if", "for", "while", "switch").contains(called)) continue;
            if (open.contains(called)) {
                again.addAll(open.subList(open.indexOf(called), open.size()));
                continue;
            }
            List<String> row = longestRow(called, bodies, open, again);
            if (row.size() > longest.size()) longest = row;
        }
        open.remove(open.size() - 1);
        longest.add(0, name);
        return longest;
    }

    /** Rule 12: what one object holds is small, so that a thousand of them have room together. */
    private static void lookAtRoom() throws Exception {
        Set<Object> objects = Collections.newSetFromMap(new IdentityHashMap<>());
        long places = placesIn(new StrangerMarket(), objects);
        if (objects.size() > 300 || places > 7000) complain(objects.size() + " objects, " + places + " fields and elements");
    }

    private static long placesIn(Object o, Set<Object> seen) throws Exception {
        if (o == null || !seen.add(o)) return 0;
        long places = 0;
        if (o.getClass().isArray()) {
            places = Array.getLength(o);
            if (o instanceof Object[] all) {
                for (Object one : all) places += placesIn(one, seen);
            }
            return places;
        }
        for (Field f : o.getClass().getDeclaredFields()) {
            if (Modifier.isStatic(f.getModifiers())) continue;
            places++;
            f.setAccessible(true);
            if (!f.getType().isPrimitive()) places += placesIn(f.get(o), seen);
        }
        return places;
    }
}
