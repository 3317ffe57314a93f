import java.io.IOException;
import java.lang.reflect.Constructor;
import java.lang.reflect.Executable;
import java.lang.reflect.Field;
import java.lang.reflect.Method;
import java.lang.reflect.Modifier;
import java.nio.file.Files;
import java.nio.file.Path;
import java.util.HashSet;
import java.util.Set;
import java.util.TreeSet;
import java.util.regex.Matcher;
import java.util.regex.Pattern;

/** The public face of the class as the document has it, and rules of LANGUAGE.md that can be read off. */
public final class FaceTest {
    private static final String INDEX = "IndexOutOfBoundsException";
    private static final String ARGUMENT = "IllegalArgumentException";
    private static final String STATE = "IllegalStateException";
    private static final String UNSUPPORTED = "UnsupportedOperationException";
    private static final String NO_ELEMENT = "NoSuchElementException";
    private static final String ARITHMETIC = "ArithmeticException";

    private static final String[] FACE = {
        "MouldDesk()",
        "int addResin(int) " + ARGUMENT + " " + STATE,
        "int fill(int int) " + INDEX + " " + ARGUMENT + " " + STATE,
        "int empty(int) " + INDEX,
        "int lots()",
        "int hoursToDry(int) " + INDEX,
        "int dry(int) " + INDEX,
        "int regrind(int) " + INDEX,
        "int addMould(int int int int int) " + ARGUMENT + " " + STATE,
        "int setLife(int int int) " + INDEX + " " + ARGUMENT,
        "int block(int int) " + INDEX + " " + STATE,
        "int repair(int int) " + INDEX + " " + STATE,
        "int nextOpen(int int) " + INDEX + " " + NO_ELEMENT,
        "int addMachine(int) " + ARGUMENT + " " + STATE,
        "int mount(int int) " + INDEX + " " + UNSUPPORTED + " " + STATE,
        "int run(int int) " + INDEX + " " + UNSUPPORTED + " " + STATE,
        "int order(int int int int) " + INDEX + " " + ARGUMENT + " " + STATE,
        "int lacks(int) " + INDEX,
        "int hoursNeeded(int) " + INDEX + " " + NO_ELEMENT,
        "int shots(int) " + INDEX,
        "long regrindIn(int) " + INDEX,
        "long regrindByShots(int) " + INDEX,
        "int greatestShare(int) " + INDEX + " " + NO_ELEMENT,
        "int pass(int) " + ARGUMENT + " " + STATE,
        "int hours()",
        "float regrindShare() " + ARITHMETIC,
        "double meanParts() " + ARITHMETIC,
    };

    private static final String[] RULED_OUT = {
        "\\bcatch\\b", "\\bfinally\\b", "\\bsynchronized\\b", "\\bassert\\b", "->", "::", "\\bpackage\\b",
        "\\bThread\\b", "\\bSystem\\.(?!arraycopy)", "\\bstatic\\s*\\{", "Exact\\b", "\\bequals\\b", "\\bhashCode\\b",
        "\\btoString\\b", "\\bwhile\\s*\\(\\s*true", "\"\\s*\\+", "\\+\\s*\"",
    };

    private static int wrong = 0;

    private static void mustHold(boolean holds, String rule) {
        if (!holds) {
            wrong++;
            System.out.println("does not hold: " + rule);
        }
    }

    private static String told(String start, Executable of) {
        StringBuilder text = new StringBuilder(start).append('(');
        String gap = "";
        for (Class<?> type : of.getParameterTypes()) {
            text.append(gap).append(type.getSimpleName());
            gap = " ";
        }
        text.append(')');
        for (Class<?> type : of.getExceptionTypes()) {
            text.append(' ').append(type.getSimpleName());
        }
        return text.toString();
    }

    private static void checkFace() {
        Set<String> due = new TreeSet<>(Set.of(FACE));
        Set<String> open = new TreeSet<>();
        for (Constructor<?> maker : MouldDesk.class.getDeclaredConstructors()) {
            mustHold(Modifier.isPublic(maker.getModifiers()), "the constructor is public");
            open.add(told("MouldDesk", maker));
        }
        Set<String> names = new HashSet<>();
        for (Method method : MouldDesk.class.getDeclaredMethods()) {
            if (!Modifier.isPrivate(method.getModifiers())) {
                mustHold(Modifier.isPublic(method.getModifiers()) && !Modifier.isStatic(method.getModifiers()), method + " is of the face");
                open.add(told(method.getReturnType().getSimpleName() + " " + method.getName(), method));
                names.add(method.getName());
            }
        }
        mustHold(open.equals(due), "the face is " + due + " and not " + open);
        mustHold(Modifier.isFinal(MouldDesk.class.getModifiers()), "the class is final");
        checkRest(names);
    }

    private static void checkRest(Set<String> publicNames) {
        for (Method method : MouldDesk.class.getDeclaredMethods()) {
            if (Modifier.isPrivate(method.getModifiers())) {
                mustHold(!publicNames.contains(method.getName()), method + " bears a name of its own");
            }
        }
        checkFields(MouldDesk.class);
        for (Field field : MouldDesk.class.getDeclaredFields()) {
            mustHold(Modifier.isPrivate(field.getModifiers()), field + " is private");
        }
        Class<?>[] inside = MouldDesk.class.getDeclaredClasses();
        mustHold(inside.length < 12, "the file has at most some twelve classes");
        for (Class<?> one : inside) {
            mustHold(Modifier.isStatic(one.getModifiers()) && !Modifier.isPublic(one.getModifiers()), one + " is static and not public");
            checkFields(one);
            for (Method method : one.getDeclaredMethods()) {
                mustHold(!publicNames.contains(method.getName()), method + " bears a name of its own");
            }
        }
    }

    private static void checkFields(Class<?> of) {
        int fields = 0;
        for (Field field : of.getDeclaredFields()) {
            if (Modifier.isStatic(field.getModifiers())) {
                mustHold(Modifier.isFinal(field.getModifiers()), field + " is final");
            } else {
                fields++;
            }
        }
        mustHold(fields <= 20, of + " has at most some twenty fields");
    }

    private static void checkText() throws IOException {
        String whole = Files.readString(Path.of("src/main/java/MouldDesk.java"));
        for (int i = 0; i < whole.length(); i++) {
            mustHold(whole.charAt(i) < 128, "the sign at " + i + " is plain");
        }
        String code = whole.replaceAll("(?s)/\\*.*?\\*/", "").replaceAll("//[^\n]*", "");
        for (String ruledOut : RULED_OUT) {
            mustHold(!Pattern.compile(ruledOut).matcher(code).find(), "no " + ruledOut + " in the code");
        }
        Matcher imports = Pattern.compile("\\bimport\\b[^;]*;").matcher(code);
        while (imports.find()) {
            mustHold(imports.group().equals("import java.util.NoSuchElementException;"), imports.group() + " is needed");
        }
        Matcher thrown = Pattern.compile("\\bthrow\\b(?! new (IndexOutOfBounds|IllegalArgument|IllegalState|UnsupportedOperation|NoSuchElement|Arithmetic)Exception\\(\"[^\"]*\"\\);)").matcher(code);
        mustHold(!thrown.find(), "each throw is of an exception that the document names, with a written text");
    }

    public static void main(String[] args) throws IOException {
        checkFace();
        checkText();
        System.out.println(wrong == 0 ? "the face and the language are as due" : wrong + " rules do not hold");
        if (wrong != 0) {
            System.exit(1);
        }
    }
}
