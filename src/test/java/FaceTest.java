import java.lang.reflect.Constructor;
import java.lang.reflect.Field;
import java.lang.reflect.Method;
import java.lang.reflect.Modifier;
import java.util.Set;
import java.util.TreeSet;

/** The face is the document's and nothing else, and rules 1 and 5 of LANGUAGE.md hold for what can be seen. */
public final class FaceTest {
    private static final String[] FACE = {
        "int token(int) throws A,S", "int cut(int) throws A", "int copy(int,int) throws I,A", "int keep() throws S",
        "int draft(int) throws I", "int scan(int) throws I", "int share(int,int) throws I",
        "int ofPiece(int,int) throws I,A", "int nearness(int) throws A",
        "int licence(int,int,boolean,int) throws A,S", "int ofLicence(int,int) throws I,A", "int tell(int,int) throws I",
        "boolean ask(int,int) throws I,S", "int project() throws S", "int node(int,int,int) throws I,S",
        "int replace(int,int,int) throws I", "int remove(int,int) throws I,S", "int ofNode(int,int,int) throws I,A",
        "boolean notice(int,int,boolean) throws I", "int ship(int) throws I,S", "int ofProject(int,int) throws I,A",
        "int many(int) throws A", "double meanShare()", "int recalledBy(int,int) throws I",
        "int clashesWith(int,int,int) throws I", "int remedy(int) throws I", "int substitute(int,int) throws I",
        "int boundWith(int) throws A", "long digest()",
    };

    private static final Checks checks = new Checks();

    private static String text(Method method) {
        return method.toGenericString().replace("SnippetBank.", "").replace("public ", "")
                .replace("java.lang.IllegalArgumentException", "A").replace("java.lang.IllegalStateException", "S")
                .replace("java.lang.IndexOutOfBoundsException", "I");
    }

    private static void face() {
        Set<String> due = new TreeSet<>(Set.of(FACE));
        Set<String> got = new TreeSet<>();
        for (Method method : SnippetBank.class.getDeclaredMethods()) {
            if (!Modifier.isPrivate(method.getModifiers())) {
                got.add(text(method));
            }
        }
        checks.due("the methods of the face", got, due);
        Constructor<?>[] constructors = SnippetBank.class.getDeclaredConstructors();
        checks.due("constructors", constructors.length, 1);
        checks.due("the constructor", constructors[0].toGenericString(), "public SnippetBank()");
        checks.due("the class", Modifier.toString(SnippetBank.class.getModifiers()), "public final");
        for (Field field : SnippetBank.class.getDeclaredFields()) {
            checks.due("private: " + field.getName(), Modifier.isPrivate(field.getModifiers()), true);
        }
    }

    private static void namesOfTheFace() {
        Set<String> taken = new TreeSet<>();
        for (String method : FACE) {
            taken.add(method.substring(method.indexOf(' ') + 1, method.indexOf('(')));
        }
        for (Method method : SnippetBank.class.getDeclaredMethods()) {
            boolean isOwn = Modifier.isPrivate(method.getModifiers());
            checks.due("of the face: " + method.getName(), isOwn && taken.contains(method.getName()), false);
        }
        for (Class<?> inside : SnippetBank.class.getDeclaredClasses()) {
            for (Method method : inside.getDeclaredMethods()) {
                checks.due("of the face: " + method, taken.contains(method.getName()), false);
            }
        }
    }

    private static void staticFieldsAreFinal() {
        for (Field field : SnippetBank.class.getDeclaredFields()) {
            boolean isStatic = Modifier.isStatic(field.getModifiers());
            checks.due("final: " + field, !isStatic || Modifier.isFinal(field.getModifiers()), true);
        }
        for (Class<?> inside : SnippetBank.class.getDeclaredClasses()) {
            checks.due("static and not public: " + inside, isHidden(inside.getModifiers()), true);
            for (Field field : inside.getDeclaredFields()) {
                checks.due("no static field inside: " + field, Modifier.isStatic(field.getModifiers()), false);
            }
        }
    }

    private static boolean isHidden(int modifiers) {
        return Modifier.isStatic(modifiers) && !Modifier.isPublic(modifiers) && !Modifier.isProtected(modifiers);
    }

    public static void main(String[] args) {
        face();
        namesOfTheFace();
        staticFieldsAreFinal();
        checks.end();
    }
}
