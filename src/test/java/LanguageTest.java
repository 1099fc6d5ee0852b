import java.io.IOException;
import java.lang.reflect.Constructor;
import java.lang.reflect.Field;
import java.lang.reflect.Method;
import java.lang.reflect.Modifier;
import java.nio.file.Files;
import java.nio.file.Path;
import java.util.ArrayList;
import java.util.Arrays;
import java.util.List;
import java.util.Set;
import java.util.TreeSet;
import java.util.regex.Matcher;
import java.util.regex.Pattern;

/** The rules of LANGUAGE.md that can be looked at from outside: the face, the words, the sizes. */
public final class LanguageTest {
    private static final String[] FACE = {
        "line 1", "set 3", "fault 3", "supply 1", "lot 1", "ticks 1", "confirm 1", "about 2", "cause 1", "book 1",
        "rule 2", "pack 2", "close 1", "weigh 2", "stack 2", "seal 1", "breakUp 2", "code 2", "box 2", "recall 2",
        "layer 4", "planned 2", "holds 0", "change 3", "stain 2", "tour 3", "scale 2", "scales 1"};
    private static final String[] FORBIDDEN = {
        "throw", "throws", "try", "catch", "finally", "synchronized", "assert", "volatile", "native", "package",
        "equals", "hashCode", "toString", "Object", "Exception", "random", "System\\.(?!arraycopy)\\w+", "\\w+Exact",
        "Thread", "Class", "protected", "->", "::", "@", "float", "double"};

    public static void main(String[] args) throws IOException {
        face();
        inside();
        String text = withoutComments(Files.readString(Path.of("src/main/java/CaseLine.java")));
        words(text);
        lengths(text);
        Due.end();
    }

    private static void yes(String what, boolean is) {
        Due.due(what, is ? 1 : 0, 1);
    }

    private static void face() {
        Due.part("rule 1, the face");
        Set<String> open = new TreeSet<>();
        for (Method m : CaseLine.class.getDeclaredMethods()) {
            if (Modifier.isPublic(m.getModifiers())) {
                open.add(m.getName() + " " + m.getParameterCount());
                yes(m + " answers an int", m.getReturnType() == int.class && !Modifier.isStatic(m.getModifiers()));
            } else {
                yes(m + " is private", Modifier.isPrivate(m.getModifiers()));
            }
        }
        yes("the methods are the document's", open.equals(new TreeSet<>(Arrays.asList(FACE))));
        Constructor<?>[] all = CaseLine.class.getDeclaredConstructors();
        yes("one public constructor", all.length == 1 && Modifier.isPublic(all[0].getModifiers())
                && all[0].getParameterCount() == 0);
        Set<String> fields = new TreeSet<>();
        for (Field f : CaseLine.class.getDeclaredFields()) {
            if (!Modifier.isPrivate(f.getModifiers())) {
                fields.add(f.getName());
                int constant = Modifier.PUBLIC | Modifier.STATIC | Modifier.FINAL;
                yes(f + " is a constant", f.getModifiers() == constant && f.getType() == int.class);
            }
        }
        yes("the constants are the document's", fields.equals(Set.of("BAD", "NO", "FULL", "NONE")));
        int mods = CaseLine.class.getModifiers();
        yes("public and final", Modifier.isPublic(mods) && Modifier.isFinal(mods));
    }

    private static void inside() {
        Due.part("rules 1, 2, 5, 11, inside");
        Set<String> names = new TreeSet<>();
        for (String each : FACE) {
            names.add(each.substring(0, each.indexOf(' ')));
        }
        List<Class<?>> classes = new ArrayList<>(Arrays.asList(CaseLine.class.getDeclaredClasses()));
        yes("twelve classes at most", classes.size() + 1 <= 12);
        for (Class<?> c : classes) {
            yes(c + " is static and not public", Modifier.isStatic(c.getModifiers())
                    && !Modifier.isPublic(c.getModifiers()) && !Modifier.isProtected(c.getModifiers()));
            for (Method m : c.getDeclaredMethods()) {
                yes(m + " has a name of its own", !names.contains(m.getName()));
            }
        }
        classes.add(CaseLine.class);
        for (Class<?> c : classes) {
            int fields = 0;
            for (Field f : c.getDeclaredFields()) {
                boolean fixed = Modifier.isStatic(f.getModifiers());
                yes(f + " is final, if it is static", !fixed || Modifier.isFinal(f.getModifiers()));
                fields += fixed ? 0 : 1;
            }
            yes(c + " has twenty fields at most", fields <= 20);
            for (Method m : c.getDeclaredMethods()) {
                yes(m + " takes seven numbers at most", m.getParameterCount() <= 7);
            }
        }
    }

    private static String withoutComments(String text) {
        return text.replaceAll("(?s)/\\*.*?\\*/", " ").replaceAll("//[^\n]*", " ");
    }

    private static void words(String text) {
        Due.part("rules 3, 4, 6, words");
        for (String word : FORBIDDEN) {
            String bounds = Character.isLetter(word.charAt(0)) || word.charAt(0) == '\\' ? "\\b" : "";
            Matcher found = Pattern.compile(bounds + "(?:" + word + ")" + bounds).matcher(text);
            yes("no " + word, !found.find());
        }
        Matcher imports = Pattern.compile("\\bimport\\s+([\\w.*]+)").matcher(text);
        while (imports.find()) {
            yes(imports.group(1), Set.of("java.util.Arrays", "java.util.List", "java.util.ArrayList")
                    .contains(imports.group(1)));
        }
        for (int i = 0; i < text.length(); i++) {
            yes("a sign of 1 to 127", text.charAt(i) >= 1 && text.charAt(i) <= 127);
        }
    }

    private static void lengths(String text) {
        Due.part("rule 11, lengths");
        Matcher head = Pattern.compile("(?m)^ +(?!return|else|new)[\\w\\[\\]]+(?: [\\w\\[\\]]+)* ?\\w*\\([^)]*\\) \\{$").matcher(text);
        int methods = 0;
        while (head.find()) {
            String name = head.group().trim();
            if (name.startsWith("if") || name.startsWith("for") || name.startsWith("while") || name.startsWith("switch")) {
                continue;
            }
            methods++;
            int depth = 1;
            int lines = 2;
            for (int i = head.end(); depth > 0 && i < text.length(); i++) {
                char sign = text.charAt(i);
                depth += sign == '{' ? 1 : sign == '}' ? -1 : 0;
                lines += sign == '\n' ? 1 : 0;
            }
            yes(name + " has sixty lines at most", lines <= 60);
        }
        yes("methods were found", methods > FACE.length);
    }
}
