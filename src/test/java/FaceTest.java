import java.lang.reflect.Constructor;
import java.lang.reflect.Executable;
import java.lang.reflect.Field;
import java.lang.reflect.Member;
import java.lang.reflect.Method;
import java.lang.reflect.Modifier;
import java.nio.file.Files;
import java.nio.file.Path;
import java.util.ArrayList;
import java.util.List;
import java.util.Set;
import java.util.TreeSet;
import java.util.regex.Matcher;
import java.util.regex.Pattern;

/** The face is the document's and no wider, and the file keeps to what of LANGUAGE.md can be seen in its text. */
final class FaceTest {
    private static int wrong = 0;

    private static void complain(String what) {
        wrong++;
        System.out.println(what);
    }

    public static void main(String[] args) throws Exception {
        Path doc = Path.of(args[0]);
        Path source = Path.of(args[1]);
        compareFace(doc);
        lookAtMembers();
        lookAtText(Files.readString(source));
        System.out.println("FaceTest: " + wrong + " complaints");
        if (wrong != 0) System.exit(1);
    }

    private static void compareFace(Path doc) throws Exception {
        Set<String> due = new TreeSet<>();
        Matcher m = Pattern.compile("(?m)^    public ([^;]*);").matcher(Files.readString(doc));
        while (m.find()) due.add(m.group(1).replaceAll("(\\w+) \\w+(?=[,)])", "$1").replaceAll(" throws.*| = .*", ""));
        Set<String> got = new TreeSet<>();
        for (Constructor<?> c : StrangerMarket.class.getConstructors()) got.add("StrangerMarket(" + types(c) + ")");
        for (Method f : StrangerMarket.class.getDeclaredMethods()) {
            if (Modifier.isPublic(f.getModifiers())) got.add(f.getReturnType().getSimpleName() + " " + f.getName() + "(" + types(f) + ")");
        }
        for (Field f : StrangerMarket.class.getFields()) got.add("static final int " + f.getName());
        if (due.size() < 30 || !due.equals(got)) complain("the face is " + got + ", due is " + due);
    }

    private static String types(Executable of) {
        List<String> names = new ArrayList<>();
        for (Class<?> c : of.getParameterTypes()) names.add(c.getSimpleName());
        return String.join(", ", names);
    }

    private static void lookAtMembers() {
        Set<String> face = new TreeSet<>();
        List<Member> members = new ArrayList<>(List.of(StrangerMarket.class.getDeclaredMethods()));
        for (Member m : members) if (Modifier.isPublic(m.getModifiers())) face.add(m.getName());
        members.addAll(List.of(StrangerMarket.class.getDeclaredFields()));
        for (Member m : members) {
            if (m.isSynthetic()) continue;
            int flags = m.getModifiers();
            if (!Modifier.isPublic(flags) && !Modifier.isPrivate(flags)) complain(m.getName() + " can be seen");
        }
        if (!Modifier.isFinal(StrangerMarket.class.getModifiers())) complain("the class is not final");
        Class<?>[] inside = StrangerMarket.class.getDeclaredClasses();
        if (inside.length > 12) complain(inside.length + " classes inside");
        for (Class<?> c : inside) {
            for (Method f : c.getDeclaredMethods()) {
                if (face.contains(f.getName())) complain(c.getSimpleName() + "." + f.getName() + " bears a name of the face");
                if (f.getParameterCount() > 7) complain(f.getName() + " has too many parameters");
            }
            int fields = 0;
            for (Field f : c.getDeclaredFields()) if (!Modifier.isStatic(f.getModifiers())) fields++;
            if (fields > 20) complain(c.getSimpleName() + " has " + fields + " fields");
        }
    }

    private static void lookAtText(String text) {
        String code = text.replaceAll("(?s)/\\*.*?\\*/", "").replaceAll("//[^\n]*", "").replaceAll("\"[^\"\n]*\"", "\"\"");
        String[] barred = {"->", "::", "\\btry\\b", "\\bcatch\\b", "\\bfinally\\b", "\\bassert\\b", "\\bsynchronized\\b",
            "\\bpackage\\b", "\\bprotected\\b", "\\bSystem\\.(?!arraycopy)", "\\bThread\\b", "\\bRandom\\b", "Exact\\(",
            "\"\" *\\+", "\\+ *\"\"", "static \\{", "\\binstanceof\\b", "\\bvar\\b", "hashCode", "toString", "\\bObject\\b"};
        for (String b : barred) {
            if (Pattern.compile(b).matcher(code).find()) complain("the source has " + b);
        }
        Matcher imports = Pattern.compile("(?m)^import (.*);").matcher(code);
        while (imports.find()) {
            if (!Set.of("java.util.Arrays", "java.util.NoSuchElementException").contains(imports.group(1))) complain("import " + imports.group(1));
        }
        for (int i = 0; i < text.length(); i++) {
            if (text.charAt(i) > 126) complain("a sign above 126 at " + i);
        }
        Matcher methods = Pattern.compile("(?ms)^( {4}| {8})(?:[\\w\\[\\]]+ )*\\w+\\([^)]*\\)[^;{]*\\{$(.*?)^\\1\\}").matcher(code);
        int found = 0;
        while (methods.find()) {
            found++;
            long lines = methods.group(2).lines().count();
            if (lines > 60) complain("a method of " + lines + " lines: " + methods.group().lines().findFirst().get());
        }
        if (found < 60) complain("only " + found + " methods found");
    }
}
