import java.lang.reflect.Constructor;
import java.lang.reflect.Field;
import java.lang.reflect.Method;
import java.lang.reflect.Modifier;
import java.util.ArrayList;
import java.util.Arrays;
import java.util.Collections;
import java.util.List;

/** The public face, as the document writes it, and rules 1, 2 and 11 of LANGUAGE.md on members. */
public final class FaceTest {
    private static final String[] METHODS = {
        "build 2 IllegalArgumentException IllegalStateException",
        "blownOut 0",
        "front 1 IndexOutOfBoundsException",
        "hang 3 IndexOutOfBoundsException IllegalArgumentException IllegalStateException",
        "lanterns 0",
        "launch 1 IndexOutOfBoundsException IllegalStateException",
        "left 1 IndexOutOfBoundsException",
        "light 1 IndexOutOfBoundsException IllegalStateException",
        "likeness 2 IndexOutOfBoundsException IllegalArgumentException",
        "load 1 IndexOutOfBoundsException",
        "make 3 IllegalArgumentException IllegalStateException",
        "nearest 1 IndexOutOfBoundsException",
        "nearestOfAll 1 IndexOutOfBoundsException",
        "ordered 0",
        "pass 1 IllegalArgumentException",
        "placeOf 1 IndexOutOfBoundsException",
        "prize 1 IllegalArgumentException",
        "putOut 1 IndexOutOfBoundsException IllegalStateException",
        "setGust 2 IllegalArgumentException",
        "setRules 2 IllegalArgumentException",
        "sortOf 1 IndexOutOfBoundsException",
        "stateOf 1 IndexOutOfBoundsException",
        "takeDown 1 IndexOutOfBoundsException IllegalStateException",
        "time 0",
    };

    public static void main(String[] args) throws IllegalAccessException {
        constants();
        methods();
        constructor();
        classesInside();
        Due.end();
    }

    private static void constants() throws IllegalAccessException {
        String[] names = {"NONE", "DARK", "LIT", "BURNT", "ASHORE", "RIVER", "GONE"};
        int[] values = {-1, 0, 1, 2, 0, 1, 2};
        int open = 0;
        for (Field field : Festoon.class.getDeclaredFields()) {
            if (!Modifier.isPrivate(field.getModifiers())) {
                int at = Arrays.asList(names).indexOf(field.getName());
                Due.holds("constant " + field.getName(), at >= 0);
                Due.is(field.toString(), field.toString(),
                        "public static final int Festoon." + field.getName());
                if (at >= 0) {
                    Due.is(field.getName(), field.getInt(null), values[at]);
                }
                open++;
            }
        }
        Due.is("number of constants", open, names.length);
    }

    private static void methods() {
        List<String> open = new ArrayList<>();
        List<String> hidden = new ArrayList<>();
        for (Method method : Festoon.class.getDeclaredMethods()) {
            if (Modifier.isPrivate(method.getModifiers())) {
                hidden.add(method.getName());
            } else {
                open.add(describe(method));
            }
        }
        Collections.sort(open);
        String[] want = METHODS.clone();
        Arrays.sort(want);
        Due.is("methods", open.toString(), Arrays.toString(want));
        for (String method : METHODS) {
            String name = method.substring(0, method.indexOf(' '));
            Due.holds("no private method is called " + name, !hidden.contains(name));
        }
    }

    private static String describe(Method method) {
        StringBuilder text = new StringBuilder(method.getName());
        text.append(' ').append(method.getParameterCount());
        for (Class<?> thrown : method.getExceptionTypes()) {
            text.append(' ').append(thrown.getSimpleName());
        }
        Due.is(method.getName() + " modifiers", method.getModifiers(), Modifier.PUBLIC);
        Due.holds(method.getName() + " answers int", method.getReturnType() == int.class);
        for (Class<?> type : method.getParameterTypes()) {
            Due.holds(method.getName() + " takes int", type == int.class);
        }
        return text.toString();
    }

    private static void constructor() {
        Constructor<?>[] all = Festoon.class.getDeclaredConstructors();
        Due.is("constructors", all.length, 1);
        Due.is("constructor", all[0].toString(), "public Festoon()");
        Due.is("class modifiers", Festoon.class.getModifiers(), Modifier.PUBLIC | Modifier.FINAL);
        Due.holds("no package", Festoon.class.getPackageName().isEmpty());
    }

    private static void classesInside() {
        Class<?>[] inside = Festoon.class.getDeclaredClasses();
        Due.holds("at most twelve classes", inside.length <= 11);
        for (Class<?> type : inside) {
            int modifiers = type.getModifiers();
            Due.holds(type + " is static", Modifier.isStatic(modifiers));
            Due.holds(type + " is not open",
                    !Modifier.isPublic(modifiers) && !Modifier.isProtected(modifiers));
        }
    }
}
