import java.lang.reflect.Constructor;
import java.lang.reflect.Field;
import java.lang.reflect.Method;
import java.lang.reflect.Modifier;
import java.util.Arrays;
import java.util.Set;
import java.util.TreeSet;
import java.util.stream.Collectors;

/** The document's face, and nothing else that is not private. */
public final class FaceTest {
    private static final String INDEX = "IndexOutOfBoundsException";
    private static final String ARGUMENT = "IllegalArgumentException";
    private static final String STATE = "IllegalStateException";

    public static void main(String[] args) {
        Due due = new Due();
        due.promise("the face");
        due.is("modifiers of the class", Packstack.class.getModifiers(), Modifier.PUBLIC | Modifier.FINAL);
        due.same("methods", methods(), wantedMethods());
        for (Field field : Packstack.class.getDeclaredFields()) {
            boolean isNone = field.getName().equals("NONE");
            due.is("is public: " + field.getName(), Modifier.isPublic(field.getModifiers()), isNone);
            due.is("is private: " + field.getName(), Modifier.isPrivate(field.getModifiers()), !isNone);
        }
        Constructor<?>[] constructors = Packstack.class.getDeclaredConstructors();
        due.is("constructors", constructors.length, 1);
        due.is("is public: the constructor", Modifier.isPublic(constructors[0].getModifiers()), true);
        due.is("parameters of the constructor", constructors[0].getParameterCount(), 0);
        askClasses(due, Packstack.class);
        for (Class<?> inner : Packstack.class.getDeclaredClasses()) {
            due.is("is static: " + inner.getName(), Modifier.isStatic(inner.getModifiers()), true);
            due.is("is private: " + inner.getName(), Modifier.isPrivate(inner.getModifiers()), true);
            askClasses(due, inner);
        }
        due.close("FaceTest");
    }

    private static void askClasses(Due due, Class<?> type) {
        for (Field field : type.getDeclaredFields()) {
            boolean isStatic = Modifier.isStatic(field.getModifiers());
            due.is("is a final static field: " + field, !isStatic || Modifier.isFinal(field.getModifiers()), true);
        }
        Set<String> face = new TreeSet<>();
        for (Method method : Packstack.class.getMethods()) {
            face.add(method.getName());
        }
        for (Method method : type.getDeclaredMethods()) {
            boolean isOfFace = type == Packstack.class && Modifier.isPublic(method.getModifiers());
            due.is("bears a name of the face: " + method, !isOfFace && face.contains(method.getName()), false);
        }
    }

    private static Set<String> methods() {
        Set<String> texts = new TreeSet<>();
        for (Method method : Packstack.class.getDeclaredMethods()) {
            if (!Modifier.isPrivate(method.getModifiers())) {
                texts.add(Modifier.toString(method.getModifiers()) + " " + method.getReturnType() + " "
                    + method.getName() + names(method.getParameterTypes()) + names(method.getExceptionTypes()));
            }
        }
        return texts;
    }

    private static String names(Class<?>[] types) {
        return Arrays.stream(types).map(Class::getSimpleName).collect(Collectors.joining(", ", "(", ")"));
    }

    private static Set<String> wantedMethods() {
        Set<String> texts = new TreeSet<>();
        for (String name : "objects prune compared reused forms cost".split(" ")) {
            texts.add("public int " + name + "()()");
        }
        for (String name : "delete damage costOf base depth parts dependents".split(" ")) {
            texts.add("public int " + name + "(int)(" + INDEX + ", " + STATE + ")");
        }
        for (String name : "isLive isLoose canRead".split(" ")) {
            texts.add("public boolean " + name + "(int)(" + INDEX + ")");
        }
        for (String name : "fanOut find looks".split(" ")) {
            texts.add("public int " + name + "(int)(" + ARGUMENT + ")");
        }
        texts.add("public int store(int, long)(" + ARGUMENT + ", " + STATE + ")");
        texts.add("public long read(int)(" + INDEX + ", " + STATE + ")");
        texts.add("public int pack(int, int, boolean)(" + ARGUMENT + ")");
        texts.add("public int deltaCost(int, int)(" + INDEX + ")");
        texts.add("public int hash(long)(" + ARGUMENT + ")");
        texts.add("public int indexAt(int)(" + INDEX + ")");
        return texts;
    }
}
