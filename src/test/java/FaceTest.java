import java.lang.reflect.Constructor;
import java.lang.reflect.Field;
import java.lang.reflect.Method;
import java.lang.reflect.Modifier;
import java.nio.file.Files;
import java.nio.file.Path;
import java.util.ArrayList;
import java.util.HashSet;
import java.util.List;
import java.util.Set;
import java.util.regex.Matcher;
import java.util.regex.Pattern;

/** The face of the class, as the document tells it, and some rules of LANGUAGE.md that a look at the source shows. */
public final class FaceTest {
    private static final String INDEX = " IndexOutOfBoundsException";
    private static final String ARGUMENT = " IllegalArgumentException";
    private static final String STATE = " IllegalStateException";
    private static final String[] FACE = {
        "int turn 1" + ARGUMENT, "int lift 0", "int stop 1" + INDEX, "int clutch 1" + INDEX,
        "int hand 2" + INDEX + ARGUMENT + STATE, "int file 3" + INDEX + ARGUMENT + STATE,
        "int change 2" + INDEX + ARGUMENT, "int set 1" + ARGUMENT + STATE, "int remember 0" + STATE,
        "int forget 1" + INDEX, "int append 1" + ARGUMENT + STATE, "int clearBuffer 0", "int firstError 0",
        "int work 0" + ARGUMENT, "int keep 0", "int goBack 0" + STATE, "int undo 0" + STATE,
        "int wheel 2" + INDEX + ARGUMENT, "int tooth 2" + INDEX, "int scene 2" + INDEX + ARGUMENT,
        "int count 1" + ARGUMENT, "int why 1" + ARGUMENT, "int round 1" + ARGUMENT, "int jamsIn 1" + ARGUMENT,
        "int ahead 2" + INDEX + ARGUMENT, "int frees 1" + ARGUMENT, "double allowedShare 0", "float meanHeight 0",
        "long digest 0",
    };
    private static final String FORBIDDEN = "->|::|\\b(?:package|import|catch|finally|synchronized|assert|instanceof"
        + "|Double|Float|System\\.(?!arraycopy)\\w+|\\w+Exact|HashMap|Thread|Random|equals|hashCode|toString)\\b";

    public static void main(String[] args) throws Exception {
        methods();
        constructors();
        constants();
        nestedClasses();
        source();
        Check.end();
    }

    private static void methods() {
        Set<String> due = new HashSet<>(List.of(FACE));
        Set<String> publicNames = new HashSet<>();
        for (Method method : CrankTheatre.class.getDeclaredMethods()) {
            if (Modifier.isPrivate(method.getModifiers())) {
                continue;
            }
            publicNames.add(method.getName());
            String told = told(method);
            if (!Modifier.isPublic(method.getModifiers()) || !due.remove(told)) {
                Check.tell("a member beside the face: " + told);
            }
        }
        for (String missing : due) {
            Check.tell("missing: " + missing);
        }
        List<Class<?>> classes = new ArrayList<>(List.of(CrankTheatre.class.getDeclaredClasses()));
        classes.add(CrankTheatre.class);
        for (Class<?> kind : classes) {
            for (Method method : kind.getDeclaredMethods()) {
                boolean isOwn = kind == CrankTheatre.class && Modifier.isPublic(method.getModifiers());
                if (!isOwn && publicNames.contains(method.getName())) {
                    Check.tell("bears the name of a public method: " + kind.getName() + "." + method.getName());
                }
            }
        }
    }

    private static String told(Method method) {
        StringBuilder told = new StringBuilder(method.getReturnType().getName() + " " + method.getName());
        told.append(' ').append(method.getParameterCount());
        for (Class<?> type : method.getParameterTypes()) {
            if (type != int.class) {
                told.append(" takes ").append(type);
            }
        }
        for (Class<?> thrown : method.getExceptionTypes()) {
            told.append(' ').append(thrown.getSimpleName());
        }
        return told.toString();
    }

    private static void constructors() {
        Constructor<?>[] all = CrankTheatre.class.getDeclaredConstructors();
        Check.equal("constructors", all.length, 1);
        Check.equal("its parameters", all[0].getParameterCount(), 0);
        Check.equal("public and final", CrankTheatre.class.getModifiers(), Modifier.PUBLIC | Modifier.FINAL);
    }

    private static void constants() {
        for (Field field : CrankTheatre.class.getDeclaredFields()) {
            boolean isNone = field.getName().equals("NONE");
            int wanted = Modifier.PUBLIC | Modifier.STATIC | Modifier.FINAL;
            if (isNone ? field.getModifiers() != wanted : !Modifier.isPrivate(field.getModifiers())) {
                Check.tell("modifiers of " + field);
            }
            if (Modifier.isStatic(field.getModifiers()) && !Modifier.isFinal(field.getModifiers())) {
                Check.tell("static state: " + field);
            }
        }
    }

    private static void nestedClasses() {
        Class<?>[] nested = CrankTheatre.class.getDeclaredClasses();
        if (nested.length > 11) {
            Check.tell("too many classes: " + nested.length);
        }
        for (Class<?> kind : nested) {
            if (!Modifier.isStatic(kind.getModifiers()) || Modifier.isPublic(kind.getModifiers())) {
                Check.tell("modifiers of " + kind);
            }
        }
    }

    private static void source() throws Exception {
        String source = Files.readString(Path.of("src/main/java/CrankTheatre.java"));
        String code = source.replaceAll("(?s)/\\*.*?\\*/", "").replaceAll("//[^\n]*", "").replaceAll("\"[^\"\n]*\"", "");
        Matcher found = Pattern.compile(FORBIDDEN).matcher(code);
        while (found.find()) {
            Check.tell("outside the language: " + found.group());
        }
    }
}
