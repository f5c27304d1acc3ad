import java.io.IOException;
import java.lang.reflect.Constructor;
import java.lang.reflect.Field;
import java.lang.reflect.Method;
import java.lang.reflect.Modifier;
import java.nio.file.Files;
import java.nio.file.Path;
import java.util.Set;
import java.util.TreeSet;
import java.util.regex.Matcher;
import java.util.regex.Pattern;

/** The rules of ../shared/LANGUAGE.md that can be read off the source and the class. */
public final class LanguageTest {
    private static final Checks CHECKS = new Checks();

    public static void main(String[] args) throws IOException {
        face();
        String source = Files.readString(Path.of("src/main/java/ActorHouse.java"));
        String code = withoutComments(source);
        words(code);
        library(code);
        shape(code);
        CHECKS.finish();
    }

    private static void face() {
        Set<String> members = new TreeSet<>();
        for (Method method : ActorHouse.class.getDeclaredMethods()) {
            if (!Modifier.isPrivate(method.getModifiers()) && !method.isSynthetic()) {
                members.add(method.getReturnType() + " " + method.getName() + "/" + method.getParameterCount());
            }
        }
        for (Field field : ActorHouse.class.getDeclaredFields()) {
            if (!Modifier.isPrivate(field.getModifiers())) {
                members.add(field.getName());
            }
        }
        for (Constructor<?> constructor : ActorHouse.class.getDeclaredConstructors()) {
            members.add("new/" + constructor.getParameterCount());
        }
        CHECKS.same("the face", members.toString(), "[NONE, boolean start/2, int actor/2, int build/0, int end/1, int fault/1, "
            + "int feed/5, int letter/1, int peek/2, int program/1, int rights/3, int show/2, int step/2, int told/2, "
            + "int world/1, new/0]");
        CHECKS.isTrue("the class is public and final", Modifier.isPublic(ActorHouse.class.getModifiers())
            && Modifier.isFinal(ActorHouse.class.getModifiers()));
        for (Class<?> inner : ActorHouse.class.getDeclaredClasses()) {
            CHECKS.isTrue(inner.getName() + " is static", Modifier.isStatic(inner.getModifiers()));
            CHECKS.isTrue(inner.getName() + " has few fields", countFields(inner) <= 20);
            for (Method method : inner.getDeclaredMethods()) {
                CHECKS.isTrue(method + " takes few parameters", method.getParameterCount() <= 7);
            }
        }
        CHECKS.isTrue("few classes", ActorHouse.class.getDeclaredClasses().length + 1 <= 12);
    }

    private static int countFields(Class<?> inner) {
        int count = 0;
        for (Field field : inner.getDeclaredFields()) {
            if (Modifier.isStatic(field.getModifiers())) {
                CHECKS.isTrue(field + " is final", Modifier.isFinal(field.getModifiers()));
            } else {
                count++;
            }
        }
        return count;
    }

    private static String withoutComments(String source) {
        return source.replaceAll("(?s)/\\*.*?\\*/", " ").replaceAll("//[^\n]*", " ");
    }

    private static void words(String code) {
        String[] forbidden = {"throw", "throws", "try", "catch", "finally", "synchronized", "assert", "package", "native",
            "volatile", "System.out", "Random", "Thread", "Exception", "Error", "hashCode", "Object", "HashMap", "->", "::"};
        String plain = code.replaceAll("\"[^\"]*\"", "\"\"");
        for (String word : forbidden) {
            boolean isWord = Character.isLetter(word.charAt(0));
            String pattern = isWord ? "\\b" + Pattern.quote(word) + "\\b" : Pattern.quote(word);
            CHECKS.isFalse("the source has " + word, Pattern.compile(pattern).matcher(plain).find());
        }
    }

    private static void library(String code) {
        Set<String> imports = new TreeSet<>();
        Matcher matcher = Pattern.compile("import ([\\w.*]+);").matcher(code);
        while (matcher.find()) {
            imports.add(matcher.group(1));
        }
        CHECKS.same("imports", imports.toString(), "[java.util.ArrayList, java.util.Arrays, java.util.List]");
        Set<String> calls = new TreeSet<>();
        matcher = Pattern.compile("\\b(?:Math|Integer|Long|Arrays|System|String|List)\\.(\\w+)").matcher(code);
        while (matcher.find()) {
            calls.add(matcher.group());
        }
        CHECKS.same("static calls", calls.toString(), "[Arrays.copyOf, Math.floorMod, Math.max, Math.min]");
    }

    private static void shape(String code) {
        String[] lines = code.split("\n");
        int begin = -1;
        for (int i = 0; i < lines.length; i++) {
            if (lines[i].matches(" {4}(?: {4})?(?:public |private |static |final )*[\\w<>\\[\\]]+(?: \\w+)?\\(.*\\{")) {
                begin = i;
            }
            if (lines[i].matches(" {4}(?: {4})?\\}") && begin >= 0) {
                CHECKS.isTrue("a short method: " + lines[begin].trim(), i - begin <= 60);
                begin = -1;
            }
        }
        CHECKS.isFalse("texts are joined by +", Pattern.compile("\"\\s*\\+|\\+\\s*\"").matcher(code).find());
    }
}
