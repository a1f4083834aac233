import java.io.IOException;
import java.lang.reflect.Constructor;
import java.lang.reflect.Executable;
import java.lang.reflect.Field;
import java.lang.reflect.Method;
import java.lang.reflect.Modifier;
import java.nio.file.Files;
import java.nio.file.Path;
import java.util.ArrayList;
import java.util.Arrays;
import java.util.List;
import java.util.regex.Matcher;
import java.util.regex.Pattern;

/** Those rules of LANGUAGE.md that can be seen from the compiled class and from words in the file. */
public final class LanguageTest {
    private static final String LIBRARY = "System.arraycopy Math.min Math.max";
    private static final String EXCEPTIONS = "IllegalStateException IllegalArgumentException"
            + " IndexOutOfBoundsException NoSuchElementException";
    private static final String[] REFUSED_WORDS = {
        "->", "::", "\\btry\\b", "\\bcatch\\b", "\\bfinally\\b", "\\bsynchronized\\b", "\\bassert\\b", "\\bpackage\\b",
        "\\bnative\\b", "\\bvolatile\\b", "\\btransient\\b", "\\bequals\\b", "\\bhashCode\\b", "\\btoString\\b", "static \\{",
    };

    public static void main(String[] args) throws IOException {
        List<Class<?>> all = new ArrayList<>(Arrays.asList(PriceHouse.class.getDeclaredClasses()));
        for (Class<?> inside : all) {
            insideIsHidden(inside);
        }
        all.add(PriceHouse.class);
        if (all.size() > 12) {
            Check.fail("rule 11: " + all.size() + " classes");
        }
        for (Class<?> one : all) {
            fields(one);
            parameters(one);
        }
        String source = withoutComments(Files.readString(Path.of("src/main/java/PriceHouse.java")));
        words(source);
        Check.end();
    }

    private static void insideIsHidden(Class<?> inside) {
        int seen = inside.getModifiers();
        if (!Modifier.isStatic(seen) || Modifier.isPublic(seen) || Modifier.isProtected(seen)) {
            Check.fail("rule 1: " + inside + " is " + Modifier.toString(seen));
        }
    }

    private static void fields(Class<?> owner) {
        int held = 0;
        for (Field f : owner.getDeclaredFields()) {
            boolean constant = Modifier.isStatic(f.getModifiers());
            held += constant ? 0 : 1;
            boolean plain = f.getType().isPrimitive() || f.getType() == String.class;
            if (constant && !(Modifier.isFinal(f.getModifiers()) && plain)) {
                Check.fail("rule 5: " + f);
            }
            Class<?> type = f.getType().isArray() ? f.getType().getComponentType() : f.getType();
            if (!plain && !type.isPrimitive() && type.getDeclaringClass() != PriceHouse.class) {
                Check.fail("rule 3: " + f);
            }
        }
        if (held > 20) {
            Check.fail("rule 11: " + held + " fields in " + owner);
        }
    }

    private static void parameters(Class<?> owner) {
        List<Executable> all = new ArrayList<>();
        for (Method m : owner.getDeclaredMethods()) {
            all.add(m);
        }
        for (Constructor<?> c : owner.getDeclaredConstructors()) {
            all.add(c);
        }
        for (Executable e : all) {
            if (e.getParameterCount() > 7) {
                Check.fail("rule 11: " + e);
            }
        }
    }

    private static String withoutComments(String source) {
        return source.replaceAll("(?s)/\\*.*?\\*/", "").replaceAll("//[^\n]*", "");
    }

    private static void words(String source) {
        for (String word : REFUSED_WORDS) {
            if (Pattern.compile(word).matcher(source).find()) {
                Check.fail("a word that is refused: " + word);
            }
        }
        only("rule 4: import", source, "import ([^;]*);", "java.util.NoSuchElementException");
        only("rule 4", source, "\\b((?:System|Math|Integer|Long|Arrays|String|Thread|Runtime)\\.\\w+)", LIBRARY);
        only("rule 6", source, "throw new (\\w+)\\(\\);", EXCEPTIONS);
        only("rule 6: throw", source, "throw (\\w+)", "new");
    }

    /** Whatever a pattern finds is one of the allowed words. */
    private static void only(String rule, String source, String pattern, String allowed) {
        Matcher found = Pattern.compile(pattern).matcher(source);
        while (found.find()) {
            if (!Arrays.asList(allowed.split(" ")).contains(found.group(1))) {
                Check.fail(rule + ": " + found.group());
            }
        }
    }
}
