import java.lang.reflect.Constructor;
import java.lang.reflect.Field;
import java.lang.reflect.Method;
import java.lang.reflect.Modifier;
import java.util.Set;
import java.util.TreeSet;

/** The class's face is the document's, and what reflection can see of LANGUAGE.md's rules 1, 2 and 5 holds. */
public final class PublicFaceTest {
    private static final Set<String> FACE = Set.of(
        "public int FpClassify.classify(int)",
        "public int FpClassify.preset(int,int)",
        "public short FpClassify.tally(int)",
        "public int FpClassify.finite()");

    public static void main(String[] args) {
        Checks.sentence("public final class FpClassify", PublicFaceTest::theClassIsPublicFinalAndAlone);
        Checks.sentence("public FpClassify()", PublicFaceTest::theOnlyConstructorIsPublicAndEmpty);
        Checks.sentence("public int classify(int bits) public int preset(int c, int v) public short tally(int c) "
            + "public int finite()",
            PublicFaceTest::theOtherMethodsArePrivate);
        Checks.sentence("The class has no public constants.", PublicFaceTest::fieldsArePrivateAndPlain);
        Checks.end();
    }

    private static void theClassIsPublicFinalAndAlone() {
        int modifiers = FpClassify.class.getModifiers();
        Checks.holds("the class is public", Modifier.isPublic(modifiers));
        Checks.holds("the class is final", Modifier.isFinal(modifiers));
        Checks.holds("the class has no package", FpClassify.class.getPackageName().isEmpty());
        Checks.holds("the class extends Object alone", FpClassify.class.getSuperclass() == Object.class);
        Checks.due("interfaces", FpClassify.class.getInterfaces().length, 0);
        Checks.due("nested classes", FpClassify.class.getDeclaredClasses().length, 0);
    }

    private static void theOnlyConstructorIsPublicAndEmpty() {
        Constructor<?>[] constructors = FpClassify.class.getDeclaredConstructors();
        Checks.due("constructors", constructors.length, 1);
        Checks.holds("public FpClassify()", constructors[0].toGenericString().equals("public FpClassify()"));
    }

    private static void theOtherMethodsArePrivate() {
        Set<String> visible = new TreeSet<>();
        Set<String> faceNames = Set.of("classify", "preset", "tally", "finite");
        for (Method method : FpClassify.class.getDeclaredMethods()) {
            if (Modifier.isPrivate(method.getModifiers())) {
                Checks.holds("no private method is named " + method.getName(), !faceNames.contains(method.getName()));
            } else {
                visible.add(method.toGenericString());
            }
        }
        Checks.holds("the visible methods are the document's: " + visible, visible.equals(FACE));
    }

    private static void fieldsArePrivateAndPlain() {
        for (Field field : FpClassify.class.getDeclaredFields()) {
            int modifiers = field.getModifiers();
            Class<?> type = field.getType();
            Checks.holds(field + " is private", Modifier.isPrivate(modifiers));
            if (Modifier.isStatic(modifiers)) {
                Checks.holds(field + " is final", Modifier.isFinal(modifiers));
                Checks.holds(field + " is int or long", type == int.class || type == long.class);
            } else {
                Checks.holds(field + " is of a plain type", isPlain(type.isArray() ? type.getComponentType() : type));
            }
        }
    }

    private static boolean isPlain(Class<?> type) {
        return type.isPrimitive() && type != float.class && type != double.class;
    }
}
