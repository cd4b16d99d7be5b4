import java.lang.reflect.Constructor;
import java.lang.reflect.Field;
import java.lang.reflect.Method;
import java.lang.reflect.Modifier;
import java.nio.file.Files;
import java.nio.file.Path;
import java.util.Set;
import java.util.TreeSet;
import java.util.regex.Matcher;
import java.util.regex.Pattern;

/** What can be seen of LANGUAGE.md: the face and the classes by reflection, the rest in the source. */
public final class LanguageTest {
    private static int wrong = 0;

    public static void main(String[] args) throws Exception {
        face();
        classesInside();
        source(Files.readString(Path.of("src/main/java/MadeMended.java")));
        System.out.println(wrong == 0 ? "the source keeps to the language" : wrong + " breaches");
        if (wrong != 0) {
            System.exit(1);
        }
    }

    private static void hold(boolean holds, String what) {
        if (!holds) {
            wrong++;
            System.out.println(what);
        }
    }

    private static void face() {
        Set<String> due = new TreeSet<>(Set.of("int feed 5", "int end 1", "int thing 2", "boolean number 3",
            "boolean name 1", "boolean move 2", "int drop 1", "int rule 1", "int fault 1", "int make 0"));
        due.addAll(Set.of("int piece 2", "int byteOf 3", "boolean hand 1", "boolean take 2", "int back 1",
            "int touch 4", "int text 1", "int maker 1", "int lone 3"));
        due.addAll(Set.of("boolean drops 1", "int thingOf 2", "int about 1"));
        Set<String> got = new TreeSet<>();
        for (Method m : MadeMended.class.getDeclaredMethods()) {
            if (!Modifier.isPrivate(m.getModifiers())) {
                got.add(m.getReturnType() + " " + m.getName() + " " + m.getParameterCount());
            }
        }
        hold(got.equals(due), "rule 1: the face is " + got);
        for (Field f : MadeMended.class.getDeclaredFields()) {
            hold(Modifier.isPrivate(f.getModifiers()) || f.getName().equals("NONE"), "rule 1: field " + f);
            hold(!Modifier.isStatic(f.getModifiers()) || Modifier.isFinal(f.getModifiers()), "rule 5: field " + f);
        }
        for (Constructor<?> c : MadeMended.class.getDeclaredConstructors()) {
            hold(Modifier.isPublic(c.getModifiers()) && c.getParameterCount() == 0, "rule 1: constructor " + c);
        }
        hold(Modifier.isFinal(MadeMended.class.getModifiers()), "rule 1: the class is not final");
    }

    private static void classesInside() {
        Set<String> names = new TreeSet<>();
        for (Method m : MadeMended.class.getDeclaredMethods()) {
            if (Modifier.isPublic(m.getModifiers())) {
                names.add(m.getName());
            }
        }
        Class<?>[] inside = MadeMended.class.getDeclaredClasses();
        hold(inside.length < 12, "rule 11: " + inside.length + " classes inside");
        for (Class<?> c : inside) {
            hold(Modifier.isStatic(c.getModifiers()) && !Modifier.isPublic(c.getModifiers()), "rule 1: " + c);
            hold(c.getDeclaredFields().length <= 20, "rule 11: fields of " + c);
            hold(c.getDeclaredClasses().length == 0, "rule 2: classes in " + c);
            for (Method m : c.getDeclaredMethods()) {
                hold(!names.contains(m.getName()), "rule 1: " + m);
                hold(m.getParameterCount() <= 7, "rule 11: " + m);
                hold(!m.isSynthetic(), "rule 2: " + m);
            }
        }
        for (Method m : MadeMended.class.getDeclaredMethods()) {
            boolean isPrivate = Modifier.isPrivate(m.getModifiers());
            hold(!isPrivate || !names.contains(m.getName()), "rule 1: " + m);
            hold(m.getParameterCount() <= 7 && !m.isSynthetic(), "rules 2, 11: " + m);
        }
    }

    private static void source(String text) {
        String bare = text.replaceAll("(?s)/\\*.*?\\*/", "").replaceAll("//[^\n]*", "");
        for (String word : new String[] {"throw", "throws", "try", "catch", "finally", "synchronized", "assert", "var",
            "package", "native", "volatile", "transient", "hashCode", "equals", "toString", "Object", "HashMap", "Random",
            "System\\.(?!arraycopy)\\w+", "\\w+Exact", "->", "::", "static \\{", "float", "double"}) {
            Matcher m = Pattern.compile(word.matches("\\w+") ? "\\b" + word + "\\b" : word).matcher(bare);
            hold(!m.find(), "the source has " + word);
        }
        Matcher imports = Pattern.compile("(?m)^import (.*);$").matcher(bare);
        while (imports.find()) {
            hold(imports.group(1).equals("java.util.ArrayList"), "rule 4: " + imports.group());
        }
        methodsAreShort(text.split("\n"));
    }

    private static void methodsAreShort(String[] lines) {
        for (int i = 0; i < lines.length; i++) {
            if (lines[i].matches("( {4}| {8})(public|private|static|final|void|int|boolean|\\w+(\\[\\])?) .*\\(.*\\) \\{")) {
                String close = lines[i].replaceAll("\\S.*", "") + "}";
                int to = i;
                while (to < lines.length && !lines[to].equals(close)) {
                    to++;
                }
                hold(to - i <= 60, "rule 11: long method at line " + (i + 1));
            }
        }
    }
}
