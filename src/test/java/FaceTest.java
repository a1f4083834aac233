import java.lang.reflect.Constructor;
import java.lang.reflect.Field;
import java.lang.reflect.Method;
import java.lang.reflect.Modifier;
import java.util.Arrays;
import java.util.Set;
import java.util.TreeSet;

/** The class has the members of the document's face and no others that are visible. */
public final class FaceTest {
    private static final String[] FACE = {
        "void article(int,int) IllegalArgumentException",
        "void bundle(int,int,int,int) IllegalArgumentException",
        "int publish() IllegalStateException",
        "void activate(int) IllegalArgumentException IllegalStateException",
        "int active()",
        "int tick(int) IllegalArgumentException",
        "void rate(int,int) IllegalArgumentException",
        "int fetch(int) IllegalArgumentException",
        "int ready(int) IllegalArgumentException IllegalStateException",
        "int ask(int) IllegalArgumentException",
        "void giveUp(int) IllegalArgumentException IllegalStateException",
        "int lease(int) IllegalArgumentException",
        "int loaded(int) IllegalArgumentException",
        "void deliver(int) IndexOutOfBoundsException",
        "void lose(int) IndexOutOfBoundsException",
        "void twin(int) IndexOutOfBoundsException IllegalStateException",
        "int letter(int,int) IndexOutOfBoundsException IllegalArgumentException",
        "int letters()",
        "int open(int) IllegalArgumentException IllegalStateException",
        "int scan(int,int,int) NoSuchElementException IllegalArgumentException IllegalStateException",
        "long pay(int) NoSuchElementException",
        "int book(int) NoSuchElementException",
        "int price(int,int) IllegalArgumentException",
        "void restart(int) IllegalArgumentException",
    };

    public static void main(String[] args) {
        membersAreThoseOfTheFace();
        noHiddenMethodBearsAPublicName();
        Check.end();
    }

    private static void membersAreThoseOfTheFace() {
        if (PriceHouse.class.getModifiers() != (Modifier.PUBLIC | Modifier.FINAL)) {
            Check.fail("the class is not just public and final");
        }
        Set<String> due = new TreeSet<>(Arrays.asList(FACE));
        Set<String> got = new TreeSet<>();
        for (Method m : PriceHouse.class.getDeclaredMethods()) {
            if (!Modifier.isPrivate(m.getModifiers()) && !m.isSynthetic()) {
                got.add((m.getModifiers() == Modifier.PUBLIC ? "" : Modifier.toString(m.getModifiers())) + text(m));
            }
        }
        if (!got.equals(due)) {
            Check.fail("the methods are " + got + ", due are " + due);
        }
        Constructor<?>[] makers = PriceHouse.class.getDeclaredConstructors();
        boolean plain = makers.length == 1 && makers[0].getParameterCount() == 0
                && makers[0].getModifiers() == Modifier.PUBLIC && makers[0].getExceptionTypes().length == 0;
        if (!plain) {
            Check.fail("the constructors are " + Arrays.toString(makers));
        }
        for (Field f : PriceHouse.class.getDeclaredFields()) {
            if (!Modifier.isPrivate(f.getModifiers()) && !f.isSynthetic()) {
                Check.fail("field " + f.getName() + " can be seen from outside");
            }
        }
    }

    private static String text(Method m) {
        StringBuilder b = new StringBuilder(m.getReturnType().getSimpleName() + " " + m.getName() + "(");
        for (int k = 0; k < m.getParameterCount(); k++) {
            b.append(k == 0 ? "" : ",").append(m.getParameterTypes()[k].getSimpleName());
        }
        b.append(")");
        for (Class<?> e : m.getExceptionTypes()) {
            b.append(" ").append(e.getSimpleName());
        }
        return b.toString();
    }

    private static void noHiddenMethodBearsAPublicName() {
        Set<String> names = new TreeSet<>();
        for (String line : FACE) {
            names.add(line.substring(line.indexOf(' ') + 1, line.indexOf('(')));
        }
        for (Method m : PriceHouse.class.getDeclaredMethods()) {
            if (!Modifier.isPublic(m.getModifiers()) && names.contains(m.getName())) {
                Check.fail("private method " + m.getName() + " bears a public name");
            }
        }
        for (Class<?> inside : PriceHouse.class.getDeclaredClasses()) {
            for (Method m : inside.getDeclaredMethods()) {
                if (names.contains(m.getName())) {
                    Check.fail(inside.getSimpleName() + "." + m.getName() + " bears a public name");
                }
            }
        }
    }
}
