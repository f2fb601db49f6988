import java.lang.reflect.Constructor;
import java.lang.reflect.Field;
import java.lang.reflect.Member;
import java.lang.reflect.Method;
import java.lang.reflect.Modifier;
import java.util.ArrayList;
import java.util.HashSet;
import java.util.List;
import java.util.Set;
import java.util.TreeSet;

/** The face of the class: what the document shows of it, and nothing else (rule 1 of LANGUAGE.md). */
final class FaceTests {
    private static final String FACE = "as(III)I before(II)Z book(II)I count(I)I differ(III)I drop(I)Z edition()I "
        + "entry(III)I feed(IIIII)I fits(II)I flaw(I)I form(IIII)I join(II)Z lead(II)Z move(II)Z octet(I)I "
        + "older(II)I part(I)I point(II)I print(I)I put(III)Z rule(II)I sense(II)I slip(II)I sort()I span(II)I "
        + "told(II)I where(II)I";

    private FaceTests() {
    }

    static void run() {
        face();
        namesOfPrivateMethods();
    }

    private static void face() {
        Set<String> shown = new TreeSet<>();
        for (Method method : SlipHouse.class.getDeclaredMethods()) {
            if (Modifier.isPublic(method.getModifiers())) {
                shown.add(method.getName() + signature(method));
            }
            Check.due("hidden unless public: " + method, isPublicOrPrivate(method), true);
        }
        Check.due("public methods", String.join(" ", shown), FACE);
        for (Field field : SlipHouse.class.getDeclaredFields()) {
            boolean isNone = field.getName().equals("NONE");
            Check.due("public field: " + field, Modifier.isPublic(field.getModifiers()), isNone);
            Check.due("hidden unless public: " + field, isPublicOrPrivate(field), true);
            Check.due("final: " + field, Modifier.isFinal(field.getModifiers()), true);
        }
        Check.due("NONE", SlipHouse.NONE, -1);
        Constructor<?>[] constructors = SlipHouse.class.getDeclaredConstructors();
        Check.due("constructors", constructors.length, 1);
        Check.due("public constructors", SlipHouse.class.getConstructors().length, 1);
        Check.due("final class", Modifier.isFinal(SlipHouse.class.getModifiers()), true);
    }

    private static boolean isPublicOrPrivate(Member member) {
        return Modifier.isPublic(member.getModifiers()) || Modifier.isPrivate(member.getModifiers());
    }

    private static String signature(Method method) {
        StringBuilder text = new StringBuilder("(");
        for (Class<?> type : method.getParameterTypes()) {
            text.append(type.descriptorString());
        }
        return text.append(")").append(method.getReturnType().descriptorString()).toString();
    }

    private static void namesOfPrivateMethods() {
        Set<String> ofFace = new HashSet<>();
        for (String method : FACE.split(" ")) {
            ofFace.add(method.substring(0, method.indexOf('(')));
        }
        List<Class<?>> classes = new ArrayList<>(List.of(SlipHouse.class.getDeclaredClasses()));
        classes.add(SlipHouse.class);
        for (Class<?> type : classes) {
            for (Method method : type.getDeclaredMethods()) {
                boolean isOfFace = Modifier.isPublic(method.getModifiers()) && type == SlipHouse.class;
                Check.due("a name of the face: " + method, ofFace.contains(method.getName()), isOfFace);
            }
        }
    }
}
