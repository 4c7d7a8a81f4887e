import java.lang.reflect.Constructor;
import java.lang.reflect.Field;
import java.lang.reflect.Method;
import java.lang.reflect.Modifier;
import java.util.TreeSet;

/** The public face is that of the document, and no member beside it can be seen (rule 1, rule 5). */
public final class FaceTest {
    private static final String[] METHODS = {
        "int tick(int)", "int first(int,int)", "int member(int,int,boolean)", "int mask(int,int)",
        "int create(int,int,int,int)", "int remove(int,int)", "int write(int,int,int,int,long)",
        "long read(int,int,int,int)", "int resize(int,int,int)", "int chmod(int,int,int)",
        "int chown(int,int,int,int)", "int acl(int,int,boolean,int,int,int)", "int list(int,boolean,int)",
        "int may(int,int,int)", "int feed(int)", "int put(int,int,int)", "int take(int,int,int)",
        "int attribute(int,int,int,int)", "int side(int,int)", "int limit(int,int,int,int,int)",
        "int grace(int,int,int)", "int charged(int,int,int)", "int inode(int,int)", "int count(int)",
    };
    private static final String[] CONSTANTS = {"NONE", "BAD", "DENIED", "NO_ROOM", "NO_QUOTA", "NOT_EMPTY", "MISSING"};
    private static final Due DUE = new Due();

    public static void main(String[] args) throws ReflectiveOperationException {
        Class<?> face = GuardedInodes.class;
        DUE.holds("public and final", (face.getModifiers() & (Modifier.PUBLIC | Modifier.FINAL)) == (Modifier.PUBLIC | Modifier.FINAL));
        methods(face);
        fields(face);
        Constructor<?>[] constructors = face.getDeclaredConstructors();
        DUE.holds("one public constructor without parameters", constructors.length == 1
                && Modifier.isPublic(constructors[0].getModifiers()) && constructors[0].getParameterCount() == 0);
        Class<?>[] inside = face.getDeclaredClasses();
        DUE.holds("at most twelve classes", inside.length < 12);
        for (Class<?> one : inside) {
            DUE.holds(one + " is static", Modifier.isStatic(one.getModifiers()));
            DUE.holds(one + " is not public", !Modifier.isPublic(one.getModifiers()) && !Modifier.isProtected(one.getModifiers()));
        }
        DUE.end();
    }

    private static void methods(Class<?> face) {
        TreeSet<String> due = new TreeSet<>();
        TreeSet<String> publicNames = new TreeSet<>();
        for (String method : METHODS) {
            due.add(method);
            publicNames.add(method.substring(method.indexOf(' ') + 1, method.indexOf('(')));
        }
        TreeSet<String> seen = new TreeSet<>();
        for (Method method : face.getDeclaredMethods()) {
            DUE.holds(method + " has at most seven parameters", method.getParameterCount() <= 7);
            if (Modifier.isPrivate(method.getModifiers())) {
                DUE.holds(method + " bears no public name", !publicNames.contains(method.getName()));
            } else {
                DUE.holds(method + " is public", Modifier.isPublic(method.getModifiers()) && !Modifier.isStatic(method.getModifiers()));
                seen.add(signature(method));
            }
        }
        DUE.holds("the methods are " + due + ", not " + seen, due.equals(seen));
    }

    private static String signature(Method method) {
        StringBuilder text = new StringBuilder(method.getReturnType().getName()).append(' ').append(method.getName()).append('(');
        for (Class<?> parameter : method.getParameterTypes()) {
            text.append(text.charAt(text.length() - 1) == '(' ? "" : ",").append(parameter.getName());
        }
        return text.append(')').toString();
    }

    private static void fields(Class<?> face) throws ReflectiveOperationException {
        for (int i = 0; i < CONSTANTS.length; i++) {
            Field constant = face.getField(CONSTANTS[i]);
            int wanted = Modifier.PUBLIC | Modifier.STATIC | Modifier.FINAL;
            DUE.holds(constant + " is a constant", constant.getModifiers() == wanted && constant.getType() == int.class);
            DUE.is(CONSTANTS[i], constant.getInt(null), -1 - i);
        }
        int shown = 0;
        for (Field field : face.getDeclaredFields()) {
            shown += Modifier.isPrivate(field.getModifiers()) ? 0 : 1;
            DUE.holds(field + ": static ones are final", !Modifier.isStatic(field.getModifiers()) || Modifier.isFinal(field.getModifiers()));
        }
        DUE.is("fields that can be seen", shown, CONSTANTS.length);
    }
}
