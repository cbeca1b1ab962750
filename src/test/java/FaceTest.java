import java.lang.reflect.Constructor;
import java.lang.reflect.Field;
import java.lang.reflect.Method;
import java.lang.reflect.Modifier;
import java.nio.charset.StandardCharsets;
import java.nio.file.Files;
import java.nio.file.Path;
import java.nio.file.Paths;
import java.util.ArrayList;
import java.util.List;
import java.util.Set;
import java.util.TreeSet;
import java.util.regex.Matcher;
import java.util.regex.Pattern;

/** The face of the class is the document's, and its source keeps to the rules of LANGUAGE.md that can be seen. */
public final class FaceTest {
    private static final String FACE = "thing:ii hang:iii weight:iiiii bottom:l number:li chance:liii feed:iii quarrel:i "
            + "node:iiii change:iiiii undo:i redo:i feeling:iii step:iii counts:iii best:liii plan:iiii judge:liii "
            + "shortOf:iii fork:liiii tell:iii ask:liii together:liiii first:ii edge:iiii edgeOf:iiiii most:ii "
            + "doubt:iiiii worst:liiii table:iii cell:iiii sure:ii lots:ii struck:ii sort:iiii offer:ii holds:iii "
            + "clear:i effort:iii hired:iii day:iiiii days:iiii waits:liii run:iiii act:iiii trace:ii keep:iii row:iiii "
            + "put:iiil element:lii shift:iiiiii taken:iii count:ii";
    private static final String CONSTANTS = "BAD=-1 NOT=-2 FULL=-3 BIG=-4 STATE=-5 VOID=-2000000000";
    private static final String[] FORBIDDEN = {"\\bthrow\\b", "\\btry\\b", "\\bcatch\\b", "\\bsynchronized\\b",
        "\\bassert\\b", "->", "::", "Exact\\b", "\\bSystem\\.(?!arraycopy)", "\\bThread\\b", "\\bRandom\\b", "\\bvar\\b",
        "Arrays\\.(?!fill|copyOf)", "MIN_VALUE", "MAX_VALUE", "\"", "\\bnew \\w+\\([^)]*\\)\\s*\\{", "\\bdouble\\b",
        "\\bfloat\\b", "\\bpackage\\b", "\\bprotected\\b", "\\bstatic\\s*\\{", "\\bhashCode\\b", "\\btoString\\b",
        "while\\s*\\(true\\)", "for\\s*\\(;;\\)"};
    private static int wrong = 0;

    private static void check(boolean holds, String what) {
        if (!holds) {
            wrong++;
            System.out.println("not so: " + what);
        }
    }

    public static void main(String[] args) throws Exception {
        face();
        for (Class<?> inside : SueOrSettle.class.getDeclaredClasses()) {
            inside(inside);
        }
        check(SueOrSettle.class.getDeclaredClasses().length <= 11, "twelve classes at most");
        fields(SueOrSettle.class);
        Path source = Paths.get(args.length > 0 ? args[0] : ".", "src", "main", "java", "SueOrSettle.java");
        source(new String(Files.readAllBytes(source), StandardCharsets.ISO_8859_1));
        System.out.println(wrong == 0 ? "the face is as due" : wrong + " things are not so");
        if (wrong != 0) {
            System.exit(1);
        }
    }

    private static String sign(Class<?> type) {
        return type == int.class ? "i" : type == long.class ? "l" : "?";
    }

    private static void face() throws Exception {
        Class<?> type = SueOrSettle.class;
        check(Modifier.isPublic(type.getModifiers()) && Modifier.isFinal(type.getModifiers()), "public and final");
        Constructor<?>[] made = type.getDeclaredConstructors();
        check(made.length == 1 && Modifier.isPublic(made[0].getModifiers()) && made[0].getParameterCount() == 0,
                "one public constructor");
        Set<String> found = new TreeSet<>();
        Set<String> names = new TreeSet<>();
        Set<String> hidden = new TreeSet<>();
        for (Method method : type.getDeclaredMethods()) {
            if (Modifier.isPrivate(method.getModifiers()) || method.isSynthetic()) {
                hidden.add(method.getName());
                continue;
            }
            StringBuilder signs = new StringBuilder(method.getName()).append(':').append(sign(method.getReturnType()));
            for (Class<?> parameter : method.getParameterTypes()) {
                signs.append(sign(parameter));
            }
            check(method.getModifiers() == Modifier.PUBLIC, method.getName() + " is plainly public");
            found.add(signs.toString());
            names.add(method.getName());
        }
        check(found.equals(new TreeSet<>(List.of(FACE.split(" ")))), "the methods are " + found);
        hidden.retainAll(names);
        check(hidden.isEmpty(), "private ones of a public name: " + hidden);
        Set<String> constants = new TreeSet<>();
        for (Field field : type.getDeclaredFields()) {
            if (!Modifier.isPrivate(field.getModifiers())) {
                check(field.getModifiers() == (Modifier.PUBLIC | Modifier.STATIC | Modifier.FINAL), field.getName());
                constants.add(field.getName() + "=" + field.getInt(null));
            }
        }
        check(constants.equals(new TreeSet<>(List.of(CONSTANTS.split(" ")))), "the constants are " + constants);
    }

    private static void inside(Class<?> type) {
        check(Modifier.isStatic(type.getModifiers()) && Modifier.isPrivate(type.getModifiers()), type + " private static");
        for (Method method : type.getDeclaredMethods()) {
            check(!(" " + FACE).contains(" " + method.getName() + ":"), type + " has a name of the face: " + method);
            check(method.getParameterCount() <= 7, method + " has seven parameters at most");
        }
        fields(type);
    }

    private static void fields(Class<?> type) {
        int own = 0;
        for (Field field : type.getDeclaredFields()) {
            boolean constant = Modifier.isStatic(field.getModifiers());
            check(!constant || Modifier.isFinal(field.getModifiers()), field + " is final");
            own += constant ? 0 : 1;
        }
        check(own <= 20, type + " has " + own + " fields");
    }

    /** The source without comments, so that their words do not count. */
    private static String bare(String text) {
        return text.replaceAll("(?s)/\\*.*?\\*/", "").replaceAll("//[^\n]*", "");
    }

    private static void source(String text) {
        String bare = bare(text);
        for (String each : FORBIDDEN) {
            Matcher matcher = Pattern.compile(each).matcher(bare);
            check(!matcher.find(), "no " + each + " in the source");
        }
        List<String> imports = new ArrayList<>();
        Matcher lines = Pattern.compile("(?m)^import (.*);").matcher(bare);
        while (lines.find()) {
            imports.add(lines.group(1));
        }
        check(imports.equals(List.of("java.util.Arrays")), "imports are " + imports);
        for (int i = 0; i < text.length(); i++) {
            char sign = text.charAt(i);
            check(sign == '\n' || sign >= 32 && sign < 127, "plain signs alone, at " + i);
        }
        lengths(text.split("\n"));
    }

    private static void lengths(String[] lines) {
        Pattern head = Pattern.compile("^( {4}| {8})(public |private |static |final )*[\\w\\[\\]]+ ?\\w*\\(.*\\{$");
        for (int i = 0; i < lines.length; i++) {
            check(lines[i].length() <= 120, "line " + (i + 1) + " is short");
            Matcher matcher = head.matcher(lines[i]);
            if (matcher.find() && !lines[i].trim().startsWith("if") && !lines[i].trim().startsWith("for")) {
                int end = i;
                while (end < lines.length && !lines[end].equals(matcher.group(1) + "}")) {
                    end++;
                }
                check(end - i < 60, "the method at line " + (i + 1) + " has " + (end - i + 1) + " lines");
            }
        }
    }
}
