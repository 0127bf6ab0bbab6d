import java.lang.reflect.Constructor;
import java.lang.reflect.Field;
import java.lang.reflect.Method;
import java.lang.reflect.Modifier;
import java.nio.charset.StandardCharsets;
import java.nio.file.Files;
import java.nio.file.Path;
import java.util.Set;
import java.util.TreeSet;

/** The face of the class, and what of LANGUAGE.md can be seen by reflection or in the source. */
public final class FaceTest {
    private static final String SOURCE = "src/main/java/Delaypouch.java";

    private static final String[] FACE = {
        "Delaypouch() ", "NONE=-1",
        "int send(int,int,int,int,int) IndexOutOfBounds,IllegalArgument,IllegalState,",
        "int meet(int,int,int) IndexOutOfBounds,IllegalArgument,",
        "int pass(int) IllegalArgument,",
        "int setBuffer(int,int) IndexOutOfBounds,IllegalArgument,IllegalState,",
        "int addContact(int,int,int,int) IndexOutOfBounds,IllegalArgument,IllegalState,",
        "int clock() ", "int bundles() ", "int endOf(int) IndexOutOfBounds,",
        "int deliveredAt(int) IndexOutOfBounds,", "int hops(int) IndexOutOfBounds,",
        "int custodian(int) IndexOutOfBounds,", "int holders(int) IndexOutOfBounds,",
        "int copies(int,int) IndexOutOfBounds,", "boolean knows(int,int) IndexOutOfBounds,",
        "int held(int) IndexOutOfBounds,", "int heldAt(int,int) IndexOutOfBounds,",
        "int dropped(int) IndexOutOfBounds,", "int refused(int) IndexOutOfBounds,",
        "int arrival(int,int) IndexOutOfBounds,", "int arrivalByRounds(int,int) IndexOutOfBounds,",
        "int promised(int) IndexOutOfBounds,",
    };

    private static final String[] NO_WORDS = {
        "->", "::", "try", "catch", "finally", "synchronized", "assert", "protected", "package ",
        "toString", "hashCode", "equals(", "System.", "Exact(", "float", "double", "Object",
        "MAX_VALUE", "MIN_VALUE", "Collections", "Arrays", "Random", "Thread", "static {",
    };

    private static int wrong = 0;

    public static void main(String[] args) throws Exception {
        checkFace();
        checkClasses();
        checkSource();
        System.out.println(wrong == 0 ? "the face is as due" : wrong + " faults");
        if (wrong != 0) {
            System.exit(1);
        }
    }

    private static void fault(String text) {
        wrong++;
        System.out.println(text);
    }

    private static String thrown(Class<?>[] kinds) {
        StringBuilder s = new StringBuilder(" ");
        for (Class<?> kind : kinds) {
            s.append(kind.getSimpleName().replace("Exception", "")).append(',');
        }
        return s.toString();
    }

    private static String types(Class<?>[] types) {
        StringBuilder s = new StringBuilder();
        for (Class<?> type : types) {
            s.append(s.length() == 0 ? "" : ",").append(type.getSimpleName());
        }
        return "(" + s + ")";
    }

    private static void checkFace() throws Exception {
        Class<?> x = Delaypouch.class;
        if (x.getModifiers() != (Modifier.PUBLIC | Modifier.FINAL) || x.getSuperclass() != Object.class) {
            fault("the class is not public, final and by itself");
        }
        Set<String> got = new TreeSet<>();
        Set<String> names = new TreeSet<>();
        for (Constructor<?> c : x.getDeclaredConstructors()) {
            got.add("Delaypouch" + types(c.getParameterTypes()) + thrown(c.getExceptionTypes()));
        }
        for (Method m : x.getDeclaredMethods()) {
            if (Modifier.isPublic(m.getModifiers())) {
                names.add(m.getName());
                got.add(m.getReturnType().getSimpleName() + " " + m.getName()
                        + types(m.getParameterTypes()) + thrown(m.getExceptionTypes()));
            }
        }
        for (Field f : x.getDeclaredFields()) {
            if (Modifier.isPublic(f.getModifiers())) {
                got.add(f.getName() + "=" + f.get(null));
            } else if (!Modifier.isPrivate(f.getModifiers())) {
                fault(f + " is seen from outside");
            }
        }
        for (Method m : x.getDeclaredMethods()) {
            if (!Modifier.isPublic(m.getModifiers()) && !Modifier.isPrivate(m.getModifiers())) {
                fault(m + " is seen from outside");
            }
        }
        privateNames(x, names);
        for (Class<?> inside : x.getDeclaredClasses()) {
            privateNames(inside, names);
        }
        if (!got.equals(new TreeSet<>(java.util.Arrays.asList(FACE)))) {
            fault("the face is " + got);
        }
    }

    private static void privateNames(Class<?> x, Set<String> names) {
        for (Method m : x.getDeclaredMethods()) {
            boolean open = x == Delaypouch.class && Modifier.isPublic(m.getModifiers());
            if (!open && names.contains(m.getName())) {
                fault(m + " bears the name of a method of the face");
            }
            if (m.getParameterCount() > 7) {
                fault(m + " takes too many parameters");
            }
        }
    }

    private static void checkClasses() {
        Class<?>[] inside = Delaypouch.class.getDeclaredClasses();
        if (inside.length > 11) {
            fault("too many classes");
        }
        checkFields(Delaypouch.class);
        for (Class<?> x : inside) {
            checkFields(x);
            if (!Modifier.isStatic(x.getModifiers()) || Modifier.isPublic(x.getModifiers())) {
                fault(x + " is not static, or is public");
            }
        }
    }

    private static void checkFields(Class<?> x) {
        int fields = 0;
        for (Field f : x.getDeclaredFields()) {
            if (!Modifier.isStatic(f.getModifiers())) {
                fields++;
            } else if (!Modifier.isFinal(f.getModifiers()) || !f.getType().isPrimitive()) {
                fault(f + " is static, and no constant");
            }
        }
        if (fields > 20) {
            fault(x + " has too many fields");
        }
    }

    private static void checkSource() throws Exception {
        String text = Files.readString(Path.of(SOURCE), StandardCharsets.UTF_8);
        String code = text.replaceAll("(?s)/\\*.*?\\*/", "").replaceAll("//[^\n]*", "");
        for (String word : NO_WORDS) {
            String whole = Character.isLetter(word.charAt(0)) ? "\\b" : "";
            if (java.util.regex.Pattern.compile(whole + java.util.regex.Pattern.quote(word))
                    .matcher(code).find()) {
                fault("the source says " + word);
            }
        }
        for (String line : code.split("\n")) {
            if (line.startsWith("import ") && !line.equals("import java.util.ArrayList;")) {
                fault("the source says " + line);
            }
        }
        for (int i = 0; i < text.length(); i++) {
            if (text.charAt(i) > 126) {
                fault("the source has the sign " + (int) text.charAt(i));
            }
        }
    }
}
