import java.lang.reflect.Constructor;
import java.lang.reflect.Field;
import java.lang.reflect.Method;
import java.lang.reflect.Modifier;
import java.nio.file.Files;
import java.nio.file.Path;
import java.util.ArrayList;
import java.util.List;
import java.util.Set;
import java.util.TreeSet;

/** The public face, all of it and nothing else, and what of the language's rules can be seen from outside. */
public final class FaceTest {
    private static final String ARGUMENT = "IllegalArgumentException";
    private static final String INDEX = "IndexOutOfBoundsException";
    private static final String STATE = "IllegalStateException";
    private static final String[][] FACE = {
        {"int peer(int,int,int)", ARGUMENT, INDEX, STATE},
        {"boolean turn(int,boolean)", INDEX},
        {"int bucket(int,int,int)", INDEX, ARGUMENT},
        {"int lookup(int,int,int)", INDEX, ARGUMENT, STATE},
        {"int asked()"},
        {"int closest(int,int)", INDEX, ARGUMENT},
        {"int file(int,int)", INDEX, STATE},
        {"int piece(int,int,int)", INDEX, ARGUMENT},
        {"boolean spoil(int,int)", INDEX, STATE},
        {"int root(int)", INDEX},
        {"int proof(int,int,int)", INDEX, ARGUMENT},
        {"boolean isProved(int,int,int,int,int,int)", INDEX, ARGUMENT},
        {"int mend(int,int)", INDEX, ARGUMENT},
        {"int fetch(int,int)", INDEX, STATE},
        {"int pass()", STATE},
        {"int tell(int,int,int,int)", INDEX, ARGUMENT, STATE},
        {"int name(int,int)", INDEX, ARGUMENT, STATE},
        {"int spread(int)", INDEX, STATE},
        {"int rounds()"},
        {"int owes(int,int)", INDEX},
        {"int net()"},
        {"int worth(int)", INDEX},
    };
    private static final String SOURCE = "src/main/java/PeerStores.java";
    private static final Check check = new Check("FaceTest");

    public static void main(String[] args) throws Exception {
        face();
        classesInside();
        source();
        check.finish();
    }

    private static void face() {
        Class<?> face = PeerStores.class;
        check.same("public and final", face.getModifiers() & (Modifier.PUBLIC | Modifier.FINAL),
                Modifier.PUBLIC | Modifier.FINAL);
        Set<String> due = new TreeSet<>();
        for (String[] row : FACE) {
            due.add(String.join(" ", row));
        }
        Set<String> got = new TreeSet<>();
        for (Method method : face.getDeclaredMethods()) {
            if (!Modifier.isPrivate(method.getModifiers())) {
                got.add(told(method));
            }
        }
        check.same("the methods", got, due);
        Constructor<?>[] constructors = face.getDeclaredConstructors();
        check.same("one constructor", constructors.length, 1);
        check.same("it is public", Modifier.isPublic(constructors[0].getModifiers()), true);
        check.same("without parameters", constructors[0].getParameterCount(), 0);
        for (Field field : face.getDeclaredFields()) {
            check.same("private: " + field.getName(), Modifier.isPrivate(field.getModifiers()), true);
        }
    }

    private static String told(Method method) {
        StringBuilder row = new StringBuilder();
        row.append(method.getReturnType().getSimpleName()).append(' ').append(method.getName()).append('(');
        String between = "";
        for (Class<?> type : method.getParameterTypes()) {
            row.append(between).append(type.getSimpleName());
            between = ",";
        }
        row.append(')');
        for (Class<?> type : method.getExceptionTypes()) {
            row.append(' ').append(type.getSimpleName());
        }
        return row.toString();
    }

    private static void classesInside() {
        List<Class<?>> all = new ArrayList<>(List.of(PeerStores.class.getDeclaredClasses()));
        check.same("some twelve classes at most", all.size() < 12, true);
        all.add(PeerStores.class);
        for (Class<?> type : all) {
            boolean isFace = type == PeerStores.class;
            check.same("static: " + type, isFace || Modifier.isStatic(type.getModifiers()), true);
            int fields = 0;
            for (Field field : type.getDeclaredFields()) {
                boolean isStatic = Modifier.isStatic(field.getModifiers());
                fields += isStatic ? 0 : 1;
                check.same("final: " + field, !isStatic || Modifier.isFinal(field.getModifiers()), true);
            }
            check.same("some twenty fields at most: " + type, fields <= 20, true);
            for (Method method : type.getDeclaredMethods()) {
                check.same("seven parameters at most: " + method, method.getParameterCount() <= 7, true);
                boolean isOfFace = isFace && !Modifier.isPrivate(method.getModifiers());
                check.same("a name of its own: " + method, isOfFace || !isOnFace(method.getName()), true);
            }
        }
    }

    private static boolean isOnFace(String name) {
        for (String[] row : FACE) {
            if (row[0].contains(" " + name + "(")) {
                return true;
            }
        }
        return false;
    }

    private static void source() throws Exception {
        String text = Files.readString(Path.of(SOURCE));
        String[] not = {"import ", "package ", "->", "::", "try {", "catch", "finally", "synchronized", "assert ",
            "instanceof", "System.", "Math.random", "Exact(", "protected ", "Object", "native "};
        for (String word : not) {
            check.same("without " + word, text.contains(word), false);
        }
        check.same("no text is joined by +", text.contains("\" +") || text.contains("+ \""), false);
        check.same("plain signs alone", text.chars().allMatch(sign -> sign == '\n' || sign >= 32 && sign < 127), true);
    }
}
