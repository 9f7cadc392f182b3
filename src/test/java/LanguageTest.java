import java.io.DataInputStream;
import java.io.IOException;
import java.io.InputStream;
import java.lang.reflect.Constructor;
import java.lang.reflect.Field;
import java.lang.reflect.Method;
import java.lang.reflect.Modifier;
import java.nio.file.Files;
import java.nio.file.Path;
import java.util.ArrayList;
import java.util.List;
import java.util.Set;
import java.util.TreeSet;
import java.util.regex.Matcher;
import java.util.regex.Pattern;

/** The rules of LANGUAGE.md that a look at the file, its members and its bytecode can tell. */
final class LanguageTest {
    private static final Set<String> LIBRARY = Set.of(
        "java/lang/Object.<init>", "java/lang/Math.max", "java/lang/Math.min", "java/lang/Math.abs",
        "java/lang/Integer.bitCount", "java/lang/String.length", "java/lang/String.charAt",
        "java/lang/System.arraycopy", "java/util/Arrays.fill");
    private static final Set<Class<?>> CONSTANT_TYPES = Set.of(int.class, long.class, boolean.class, char.class,
        String.class, int[].class, long[].class, char[].class, byte[].class);
    private static final Pattern BARRED = Pattern.compile("\\b(throw|throws|try|catch|finally|synchronized|assert|package"
        + "|native|volatile|transient|goto|Exact|System\\.(?!arraycopy))\\b|->|::|\\bwhile *\\( *true|\\bfor *\\(;;");
    private static final Check check = new Check();

    public static void main(String[] args) throws IOException {
        String file = Files.readString(Path.of(System.getProperty("main", "src/main/java/DawnEights.java")));
        words(file);
        lengths(file.split("\n"));
        List<Class<?>> classes = new ArrayList<>(List.of(DawnEights.class.getDeclaredClasses()));
        check.isTrue("rule 11: twelve classes at most", classes.size() < 12);
        for (Class<?> inside : classes) {
            check.isTrue("rule 2: " + inside + " is static", Modifier.isStatic(inside.getModifiers()));
            check.isTrue("rule 2: no class inside " + inside, inside.getDeclaredClasses().length == 0);
            names(inside);
        }
        classes.add(DawnEights.class);
        for (Class<?> one : classes) {
            fields(one);
            parameters(one);
            library(one);
        }
        check.end("LanguageTest");
    }

    private static void words(String file) {
        String bare = file.replaceAll("(?s)/\\*.*?\\*/", "").replaceAll("//[^\n]*", "");
        Matcher barred = BARRED.matcher(bare);
        check.isTrue("rules 2, 6, 9: a barred word stands in the file", !barred.find());
        check.isTrue("only 1 to 127 stands in the file", file.chars().allMatch(c -> c < 128));
    }

    /** Rule 11: a method is closed by a brace as far in as its first line. */
    private static void lengths(String[] lines) {
        Pattern head = Pattern.compile("( {4}| {8})(public |private |static |final |[\\w\\[\\]]+ )+\\w+\\(.*\\{");
        int methods = 0;
        for (int i = 0; i < lines.length; i++) {
            Matcher m = head.matcher(lines[i]);
            if (m.matches()) {
                int end = i;
                while (!lines[end].equals(m.group(1) + "}")) {
                    end++;
                }
                check.isTrue("rule 11: sixty lines at most: " + lines[i].trim(), end - i < 60);
                methods++;
            }
        }
        check.isTrue("the methods were found: " + methods, methods > 80);
    }

    private static void fields(Class<?> one) {
        int own = 0;
        for (Field f : one.getDeclaredFields()) {
            if (Modifier.isStatic(f.getModifiers())) {
                check.isTrue("rule 5: " + f + " is a constant",
                    Modifier.isFinal(f.getModifiers()) && CONSTANT_TYPES.contains(f.getType()));
            } else {
                own++;
            }
        }
        check.isTrue("rule 11: " + one + " has twenty fields at most", own <= 20);
    }

    /** Rule 1, read strictly: no method of a class inside bears the name of a public one either. */
    private static void names(Class<?> inside) {
        Set<String> face = new TreeSet<>();
        for (Method m : DawnEights.class.getMethods()) {
            face.add(m.getName());
        }
        for (Method m : inside.getDeclaredMethods()) {
            check.isTrue("rule 1: " + m + " bears a public one's name", !face.contains(m.getName()));
        }
    }

    private static void parameters(Class<?> one) {
        for (Method m : one.getDeclaredMethods()) {
            check.isTrue("rule 11: seven parameters at most: " + m, m.getParameterCount() <= 7);
        }
        for (Constructor<?> c : one.getDeclaredConstructors()) {
            check.isTrue("rule 11: seven parameters at most: " + c, c.getParameterCount() <= 7);
        }
    }

    /** Rule 4: every method that the bytecode names is the file's own or of the library that is allowed. */
    private static void library(Class<?> one) throws IOException {
        for (String called : methodsNamedIn(one)) {
            check.isTrue("rule 4: " + called + " in " + one, called.startsWith("DawnEights") || LIBRARY.contains(called));
        }
    }

    private static Set<String> methodsNamedIn(Class<?> one) throws IOException {
        try (InputStream file = one.getResourceAsStream(one.getName() + ".class");
            DataInputStream in = new DataInputStream(file)) {
            in.readLong();
            int size = in.readUnsignedShort();
            String[] texts = new String[size];
            int[][] pairs = new int[size][];
            List<Integer> methods = new ArrayList<>();
            for (int i = 1; i < size; i++) {
                int tag = in.readUnsignedByte();
                switch (tag) {
                    case 1: texts[i] = in.readUTF(); break;
                    case 3, 4: in.readInt(); break;
                    case 5, 6: in.readLong(); i++; break;
                    case 7, 8: pairs[i] = new int[] {in.readUnsignedShort()}; break;
                    case 9, 10, 11, 12: pairs[i] = new int[] {in.readUnsignedShort(), in.readUnsignedShort()}; break;
                    default: throw new IOException("rule 2: a lambda or the like in " + one + ", tag " + tag);
                }
                if (tag == 10 || tag == 11) {
                    methods.add(i);
                }
            }
            Set<String> named = new TreeSet<>();
            for (int m : methods) {
                named.add(texts[pairs[pairs[m][0]][0]] + "." + texts[pairs[pairs[m][1]][0]]);
            }
            return named;
        }
    }
}
