import java.lang.reflect.Constructor;
import java.lang.reflect.Field;
import java.lang.reflect.Method;
import java.lang.reflect.Modifier;
import java.util.ArrayList;
import java.util.Arrays;
import java.util.HashSet;
import java.util.List;
import java.util.Set;

/** The public face, as the document writes it, and rule 1 of LANGUAGE.md. */
public final class FaceTest {
    private static final String[] FACE = {
        "int append(int, int, int, int, int)", "int load(int)", "int parseError()", "int errorPosition()",
        "int buffered()", "int find(int)", "int count(int)", "int setting(int)", "int program(int, int)",
        "int page(int, int, int)", "int frame(int, int)", "int offer(int, int)", "float worth(int)",
        "int costOf(int)", "int nextFree()", "int idlest()", "int leastTrusted()", "int richest()",
        "int priceStep(int)", "int sharers(int, int)", "float hitShare()", "double meanTrust()", "int written(int)",
        "int would(int, int, boolean)", "int freeIn(int)", "int offersIn(int)", "int ticksTo(int)",
        "int creditIf(int, int)", "int victim(int)", "int leastPrice(int)", "int writeProgram(int)",
        "int writeFrames()", "int writeOffers()", "int textByte(int)", "int touch(int, int, boolean)", "int ask(int)",
        "int take(int)", "int tick(int)", "int share(int, int, int, int)", "int drop(int, int)",
        "boolean pin(int, int, boolean)", "int end(int)", "int setPrice(int, int)", "int trust(int, int)",
        "boolean watch(int, int, int)", "int watched(int)", "int unwatch()", "int undo()", "int undoable()",
        "int save(int)", "int restore(int)",
    };

    private FaceTest() {
    }

    public static void main(String[] args) {
        classIsPublicAndFinal();
        methods();
        constructorsAndFields();
        Due.end();
    }

    private static void classIsPublicAndFinal() {
        int modifiers = SparePager.class.getModifiers();
        Due.is("public", Modifier.isPublic(modifiers), true);
        Due.is("final", Modifier.isFinal(modifiers), true);
    }

    private static String signature(Method method) {
        List<String> types = new ArrayList<>();
        for (Class<?> type : method.getParameterTypes()) {
            types.add(type.getName());
        }
        return method.getReturnType().getName() + " " + method.getName() + "(" + String.join(", ", types) + ")";
    }

    private static void methods() {
        Set<String> due = new HashSet<>(Arrays.asList(FACE));
        Set<String> names = new HashSet<>();
        for (Method method : SparePager.class.getDeclaredMethods()) {
            if (!Modifier.isPrivate(method.getModifiers())) {
                Due.is("public, not static: " + method, method.getModifiers(), Modifier.PUBLIC);
                Due.is("in the document: " + method, due.remove(signature(method)), true);
                names.add(method.getName());
            }
        }
        Due.is("missing: " + due, due.size(), 0);
        List<Class<?>> classes = new ArrayList<>(Arrays.asList(SparePager.class.getDeclaredClasses()));
        Due.is("some twelve classes", classes.size() <= 12, true);
        classes.add(SparePager.class);
        for (Class<?> inside : classes) {
            for (Method method : inside.getDeclaredMethods()) {
                boolean isTwice = Modifier.isPrivate(method.getModifiers()) && names.contains(method.getName());
                Due.is("private with a public name: " + method, isTwice, false);
            }
        }
    }

    private static void constructorsAndFields() {
        Constructor<?>[] constructors = SparePager.class.getDeclaredConstructors();
        Due.is("one constructor", constructors.length, 1);
        Due.is("public", constructors[0].getModifiers(), Modifier.PUBLIC);
        Due.is("without parameters", constructors[0].getParameterCount(), 0);
        for (Field field : SparePager.class.getDeclaredFields()) {
            boolean isConstant = field.getName().equals("NONE");
            Due.is("private: " + field, Modifier.isPrivate(field.getModifiers()), !isConstant);
            boolean isFixed = !Modifier.isStatic(field.getModifiers()) || Modifier.isFinal(field.getModifiers());
            Due.is("static and final: " + field, isFixed, true);
        }
        for (Class<?> inside : SparePager.class.getDeclaredClasses()) {
            Due.is("static: " + inside, Modifier.isStatic(inside.getModifiers()), true);
            Due.is("not public: " + inside, Modifier.isPublic(inside.getModifiers()), false);
        }
    }
}
