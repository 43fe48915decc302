import java.lang.reflect.Constructor;
import java.lang.reflect.Field;
import java.lang.reflect.Member;
import java.lang.reflect.Method;
import java.lang.reflect.Modifier;
import java.util.ArrayList;
import java.util.Arrays;
import java.util.Collections;
import java.util.HashSet;
import java.util.List;
import java.util.Set;

/** The public face, its constants, and that the class shows nothing else. */
public final class FaceTest {
    private static final String[] FACE = {
        "make(int,int,int)int", "told(int,int)int", "days(int,int)int", "set(int,int)int", "type(long,int)int",
        "ice()int", "sleighs()int", "count(int)int", "sleigh(int,int,int)int", "home()int", "step(int)int",
        "back(int)int", "need(int,int)int", "breaks(int)int", "cracks(int)long", "crack(int)int",
        "road(int,int,int,int,int)int", "most(int,int,int)int", "planks(int,int,int,int)int", "slip(int,int)int",
        "hear(int,int,int)int", "deaf()int", "span(int,int,int)int", "safe(int,int,int,int)int", "drum()int",
        "liars()int", "image()int", "restore()int", "go(int,int,int,int)int", "film(int,int,int)int",
        "sheet(int,int,int)int", "drop(int)int", "item(int,int,int,long)int"};
    private static final String[] CONSTANTS = {"BAD", "NOT", "FULL", "NONE", "NULL", "CAST", "INDEX", "SIZE"};
    private static final int[] VALUES = {-1, -2, -3, -4, -11, -12, -13, -14};

    public static void main(String[] args) throws ReflectiveOperationException {
        Due due = new Due("FaceTest");
        due.holds("the class is public and final",
            Modifier.isPublic(IceByEar.class.getModifiers()) && Modifier.isFinal(IceByEar.class.getModifiers()));
        constructor(due);
        methods(due);
        constants(due);
        nested(due);
        due.end();
    }

    private static void constructor(Due due) {
        Constructor<?>[] all = IceByEar.class.getDeclaredConstructors();
        due.is("constructors", all.length, 1);
        due.holds("the constructor is public and takes nothing",
            Modifier.isPublic(all[0].getModifiers()) && all[0].getParameterCount() == 0);
    }

    private static void methods(Due due) {
        List<String> open = new ArrayList<>();
        Set<String> names = new HashSet<>();
        for (Method method : IceByEar.class.getDeclaredMethods()) {
            if (!Modifier.isPrivate(method.getModifiers()) && !method.isSynthetic()) {
                open.add(signature(method));
                names.add(method.getName());
                due.holds(method.getName() + " is public and of an object",
                    Modifier.isPublic(method.getModifiers()) && !Modifier.isStatic(method.getModifiers()));
            }
        }
        List<String> want = new ArrayList<>(Arrays.asList(FACE));
        Collections.sort(open);
        Collections.sort(want);
        due.holds("the methods are " + want + ", they are " + open, want.equals(open));
        hiddenNames(due, names, IceByEar.class);
        for (Class<?> inside : IceByEar.class.getDeclaredClasses()) {
            hiddenNames(due, names, inside);
        }
    }

    private static void hiddenNames(Due due, Set<String> names, Class<?> of) {
        for (Method method : of.getDeclaredMethods()) {
            boolean isFace = of == IceByEar.class && Modifier.isPublic(method.getModifiers());
            due.holds(of.getName() + "." + method.getName() + " bears no public one's name",
                isFace || !names.contains(method.getName()));
        }
    }

    private static String signature(Method method) {
        StringBuilder text = new StringBuilder(method.getName()).append('(');
        for (Class<?> type : method.getParameterTypes()) {
            text.append(text.charAt(text.length() - 1) == '(' ? "" : ",").append(type.getName());
        }
        return text.append(')').append(method.getReturnType().getName()).toString();
    }

    private static void constants(Due due) throws ReflectiveOperationException {
        for (int i = 0; i < CONSTANTS.length; i++) {
            Field field = IceByEar.class.getField(CONSTANTS[i]);
            due.holds(CONSTANTS[i] + " is an int", field.getType() == int.class);
            due.is(CONSTANTS[i], field.getInt(null), VALUES[i]);
        }
        int open = 0;
        for (Field field : IceByEar.class.getDeclaredFields()) {
            open += Modifier.isPrivate(field.getModifiers()) ? 0 : 1;
            staticIsFinal(due, field);
        }
        due.is("fields that are not private", open, CONSTANTS.length);
    }

    private static void nested(Due due) {
        Class<?>[] inside = IceByEar.class.getDeclaredClasses();
        due.holds("at most twelve classes", inside.length + 1 <= 12);
        for (Class<?> one : inside) {
            int modifiers = one.getModifiers();
            due.holds(one + " is static, neither public nor protected", Modifier.isStatic(modifiers)
                && !Modifier.isPublic(modifiers) && !Modifier.isProtected(modifiers));
            for (Field field : one.getDeclaredFields()) {
                staticIsFinal(due, field);
            }
        }
    }

    private static void staticIsFinal(Due due, Member field) {
        int modifiers = field.getModifiers();
        due.holds(field.getName() + " is final, if it is static",
            !Modifier.isStatic(modifiers) || Modifier.isFinal(modifiers));
    }
}
