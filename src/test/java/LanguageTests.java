import java.io.IOException;
import java.lang.reflect.Constructor;
import java.lang.reflect.Field;
import java.lang.reflect.Member;
import java.lang.reflect.Method;
import java.lang.reflect.Modifier;
import java.nio.file.Files;
import java.nio.file.Path;
import java.util.ArrayList;
import java.util.HashSet;
import java.util.List;
import java.util.Set;
import java.util.TreeSet;
import java.util.regex.Matcher;
import java.util.regex.Pattern;

/** The face of the class, and the rules of LANGUAGE.md that a look at it or at its text can tell. */
final class LanguageTests {
    private static final String FACE = "as(III)I before(II)Z book(II)I count(I)I differ(III)I drop(I)Z edition()I "
        + "entry(III)I feed(IIIII)I fits(II)I flaw(I)I form(IIII)I join(II)Z lead(II)Z move(II)Z octet(I)I "
        + "older(II)I part(I)I point(II)I print(I)I put(III)Z rule(II)I sense(II)I slip(II)I sort()I span(II)I "
        + "told(II)I where(II)I";
    private static final String[] BANNED = {"throw", "throws", "try", "catch", "synchronized", "assert", "import",
        "package", "protected", "Object", "String", "double", "float", "equals", "hashCode", "toString", "System"};

    private LanguageTests() {
    }

    static void run() {
        face();
        namesOfPrivateMethods();
        nestedClasses();
        text();
    }

    private static void face() {
        Set<String> shown = new TreeSet<>();
        for (Method method : SlipHouse.class.getDeclaredMethods()) {
            if (Modifier.isPublic(method.getModifiers())) {
                shown.add(method.getName() + signature(method));
            }
            Check.due("hidden unless public: " + method, isPublicOrPrivate(method), true);
        }
        Check.due("public methods", String.join(" ", shown), FACE);
        for (Field field : SlipHouse.class.getDeclaredFields()) {
            boolean isNone = field.getName().equals("NONE");
            Check.due("public field: " + field, Modifier.isPublic(field.getModifiers()), isNone);
            Check.due("hidden unless public: " + field, isPublicOrPrivate(field), true);
            Check.due("final: " + field, Modifier.isFinal(field.getModifiers()), true);
        }
        Constructor<?>[] constructors = SlipHouse.class.getDeclaredConstructors();
        Check.due("constructors", constructors.length, 1);
        Check.due("public constructors", SlipHouse.class.getConstructors().length, 1);
        Check.due("final class", Modifier.isFinal(SlipHouse.class.getModifiers()), true);
    }

    private static boolean isPublicOrPrivate(Member member) {
        return Modifier.isPublic(member.getModifiers()) || Modifier.isPrivate(member.getModifiers());
    }

    private static String signature(Method method) {
        StringBuilder text = new StringBuilder("(");
        for (Class<?> type : method.getParameterTypes()) {
            text.append(type.descriptorString());
        }
        return text.append(")").append(method.getReturnType().descriptorString()).toString();
    }

    private static void namesOfPrivateMethods() {
        Set<String> ofFace = new HashSet<>();
        for (String method : FACE.split(" ")) {
            ofFace.add(method.substring(0, method.indexOf('(')));
        }
        List<Class<?>> classes = new ArrayList<>(List.of(SlipHouse.class.getDeclaredClasses()));
        classes.add(SlipHouse.class);
        for (Class<?> type : classes) {
            for (Method method : type.getDeclaredMethods()) {
                boolean isOfFace = Modifier.isPublic(method.getModifiers()) && type == SlipHouse.class;
                Check.due("a name of the face: " + method, ofFace.contains(method.getName()), isOfFace);
            }
        }
    }

    private static void nestedClasses() {
        Class<?>[] classes = SlipHouse.class.getDeclaredClasses();
        Check.due("some twelve classes", classes.length <= 11, true);
        for (Class<?> type : classes) {
            Check.due("static: " + type, Modifier.isStatic(type.getModifiers()), true);
            Check.due("hidden: " + type, Modifier.isPublic(type.getModifiers()), false);
            Check.due("some twenty fields: " + type, type.getDeclaredFields().length <= 20, true);
            for (Method method : type.getDeclaredMethods()) {
                Check.due("at most seven parameters: " + method, method.getParameterCount() <= 7, true);
            }
        }
    }

    private static void text() {
        String text;
        try {
            text = Files.readString(Path.of("src/main/java/SlipHouse.java"));
        } catch (IOException e) {
            Check.due("the class can be read", false, true);
            return;
        }
        String code = text.replaceAll("(?s)/\\*.*?\\*/", "").replaceAll("//[^\n]*", "");
        for (String word : BANNED) {
            Matcher found = Pattern.compile("\\b" + word + "\\b").matcher(code);
            Check.due("the word " + word + " in the class", found.find(), false);
        }
        Check.due("lambdas", code.contains("->"), false);
        Check.due("method references", code.contains("::"), false);
        Check.due("signs above 127", code.chars().anyMatch(sign -> sign > 127), false);
        methodLengths(code.split("\n"));
    }
    /** Methods begin and end at an indent of four, those of the classes inside at one of eight. */
    private static void methodLengths(String[] lines) {
        Pattern begin = Pattern.compile("^( {4}| {8})[a-z].*\\) \\{$");
        for (int i = 0; i < lines.length; i++) {
            Matcher found = begin.matcher(lines[i]);
            if (found.find()) {
                int end = i;
                while (end < lines.length && !lines[end].equals(found.group(1) + "}")) {
                    end++;
                }
                Check.due("some sixty lines: " + lines[i].trim(), end - i <= 60, true);
            }
        }
    }
}
