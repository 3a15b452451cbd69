import java.io.IOException;
import java.lang.reflect.Constructor;
import java.lang.reflect.Field;
import java.lang.reflect.Method;
import java.lang.reflect.Modifier;
import java.nio.file.Files;
import java.nio.file.Path;
import java.util.Arrays;
import java.util.Set;
import java.util.TreeSet;
import java.util.regex.Matcher;
import java.util.regex.Pattern;

/** The public face, and the rules of LANGUAGE.md that can be seen without a reading of the whole. */
public final class FaceTest {
    private static final String[] METHODS = {
        "int person(int,int)", "int death(int,int)", "int unknown(int,int)", "int taken(int,int)",
        "int look(int,int)", "int thing(int,int)", "int tell(int,int,int)", "int ruin(int,int)",
        "int part(int,int,int)", "int parts(int,int)", "int feed(int,int)", "int wipe()", "int deed()",
        "int end(int,int,int)", "int yields(int)", "int manager(int)", "int left(int)", "int gets(int,int)",
        "int due(int,int)", "long share(int,int,int,boolean)", "int bound(int,int,boolean)", "int run(int)",
        "long account(int,boolean)", "int lease(int,int,int,boolean)", "int leased(int,int)", "int law(int)",
        "int swap(int,int,boolean)", "int count(int)", "int lay(int)", "int tear()", "int row(int)",
        "int copy(int,int,int)", "int status(int)",
    };
    private static final String[] CONSTANTS = {
        "NONE", "MISSING", "BEYOND", "BELOW", "KIND", "COPY", "NO", "FULL",
    };
    private static final String[] FORBIDDEN = {
        "\\bimport\\b", "\\bpackage\\b", "->", "::", "\\btry\\b", "\\bcatch\\b", "\\bthrow\\b", "\\bthrows\\b",
        "\\bsynchronized\\b", "\\bassert\\b", "\\bfinally\\b", "\\bprotected\\b", "Exact\\b", "\\bSystem\\.(?!arraycopy)",
        "[^\\x00-\\x7F]",
    };
    private static final Checks checks = new Checks();

    public static void main(String[] args) throws IOException, IllegalAccessException {
        constants();
        methods();
        nested();
        source();
        checks.endWithExitCode("FaceTest");
    }

    private static void constants() throws IllegalAccessException {
        Class<?> face = EndowBook.class;
        checks.isTrue("public and final", Modifier.isPublic(face.getModifiers()) && Modifier.isFinal(face.getModifiers()));
        checks.isTrue("no package", face.getPackageName().isEmpty());
        Set<String> open = new TreeSet<>();
        for (Field field : face.getDeclaredFields()) {
            boolean isStatic = Modifier.isStatic(field.getModifiers());
            checks.isTrue(field.getName() + " is final if static", !isStatic || Modifier.isFinal(field.getModifiers()));
            if (!Modifier.isPrivate(field.getModifiers())) {
                open.add(field.getName());
            }
        }
        checks.isTrue("constants " + open, open.equals(new TreeSet<>(Arrays.asList(CONSTANTS))));
        for (int k = 0; k < CONSTANTS.length; k++) {
            try {
                Field field = face.getField(CONSTANTS[k]);
                checks.due(CONSTANTS[k], field.getInt(null), -1 - k);
            } catch (NoSuchFieldException e) {
                checks.isTrue("no constant " + CONSTANTS[k], false);
            }
        }
        Constructor<?>[] all = face.getDeclaredConstructors();
        checks.due("constructors", all.length, 1);
        checks.isTrue("public constructor without arguments",
            Modifier.isPublic(all[0].getModifiers()) && all[0].getParameterCount() == 0);
    }

    private static String face(Method method) {
        StringBuilder text = new StringBuilder(method.getReturnType().getName());
        text.append(' ').append(method.getName()).append('(');
        for (Class<?> type : method.getParameterTypes()) {
            text.append(text.charAt(text.length() - 1) == '(' ? "" : ",").append(type.getName());
        }
        return text.append(')').toString();
    }

    private static void methods() {
        Set<String> open = new TreeSet<>();
        Set<String> hidden = new TreeSet<>();
        Set<String> names = new TreeSet<>();
        for (Method method : EndowBook.class.getDeclaredMethods()) {
            if (Modifier.isPrivate(method.getModifiers())) {
                hidden.add(method.getName());
            } else {
                open.add(face(method));
                names.add(method.getName());
                checks.isTrue(method + " is public and not static",
                    Modifier.isPublic(method.getModifiers()) && !Modifier.isStatic(method.getModifiers()));
            }
            checks.isTrue(method + " takes at most seven", method.getParameterCount() <= 7);
        }
        checks.isTrue("methods " + open, open.equals(new TreeSet<>(Arrays.asList(METHODS))));
        hidden.retainAll(names);
        checks.isTrue("private methods with public names: " + hidden, hidden.isEmpty());
    }

    private static void nested() {
        Class<?>[] all = EndowBook.class.getDeclaredClasses();
        checks.isTrue("at most twelve classes", all.length < 12);
        for (Class<?> one : all) {
            int modifiers = one.getModifiers();
            checks.isTrue(one + " is static", Modifier.isStatic(modifiers));
            checks.isTrue(one + " is hidden", !Modifier.isPublic(modifiers) && !Modifier.isProtected(modifiers));
            int fields = 0;
            for (Field field : one.getDeclaredFields()) {
                fields += Modifier.isStatic(field.getModifiers()) ? 0 : 1;
            }
            checks.isTrue(one + " has at most twenty fields", fields <= 20);
        }
    }

    private static void source() throws IOException {
        String text = Files.readString(Path.of("src/main/java/EndowBook.java"));
        for (String pattern : FORBIDDEN) {
            Matcher m = Pattern.compile(pattern).matcher(text);
            checks.isTrue("no " + pattern, !m.find());
        }
    }
}
