import java.lang.reflect.Constructor;
import java.lang.reflect.Field;
import java.lang.reflect.Member;
import java.lang.reflect.Method;
import java.lang.reflect.Modifier;
import java.util.ArrayList;
import java.util.List;
import java.util.Set;
import java.util.TreeSet;

/** The public face of the document, and the rules of LANGUAGE.md that can be seen from outside (1, 5 and 11). */
public final class FaceTest {
    private static final String[] FACE = {
        "int primitive(int,int,int,int,int)", "int compound()", "int method(int,int,int)", "int part(int,int)",
        "boolean start(int)", "int aim(int)", "int forget()", "int cycle(int)", "int plan(int)", "int another(int)",
        "int steps()", "int task(int)", "int found(int)", "int node(int,int)", "int check()", "int told(int,int)",
        "int left()"
    };

    public static void main(String[] args) {
        Due due = new Due();
        constants(due);
        face(due);
        membersAreHidden(due);
        rulesForAllClasses(due);
        due.end();
    }

    private static void constants(Due due) {
        due.is("NONE", TaskWeaver.NONE, -1);
        due.is("FOUND", TaskWeaver.FOUND, 0);
        due.is("END", TaskWeaver.END, 1);
        due.is("MORE", TaskWeaver.MORE, 2);
        due.is("CYCLIC", TaskWeaver.CYCLIC, 3);
    }

    private static void face(Due due) {
        int modifiers = TaskWeaver.class.getModifiers();
        due.is("the class is public and final", Modifier.isPublic(modifiers) && Modifier.isFinal(modifiers), true);
        Set<String> seen = new TreeSet<>();
        for (Method method : TaskWeaver.class.getDeclaredMethods()) {
            if (Modifier.isPublic(method.getModifiers())) {
                due.is("static " + method, Modifier.isStatic(method.getModifiers()), false);
                seen.add(signature(method));
            }
        }
        for (String line : FACE) {
            due.is("the face has " + line, seen.remove(line), true);
        }
        due.is("public methods beside the face " + seen, seen.size(), 0);
        Constructor<?>[] constructors = TaskWeaver.class.getDeclaredConstructors();
        due.is("constructors", constructors.length, 1);
        due.is("parameters of the constructor", constructors[0].getParameterCount(), 0);
        due.is("the constructor is public", Modifier.isPublic(constructors[0].getModifiers()), true);
        due.is("public fields", TaskWeaver.class.getFields().length, 5);
    }

    private static String signature(Method method) {
        List<String> types = new ArrayList<>();
        for (Class<?> type : method.getParameterTypes()) {
            types.add(type.getName());
        }
        return method.getReturnType().getName() + " " + method.getName() + "(" + String.join(",", types) + ")";
    }

    private static void membersAreHidden(Due due) {
        List<Member> members = new ArrayList<>();
        members.addAll(List.of(TaskWeaver.class.getDeclaredMethods()));
        members.addAll(List.of(TaskWeaver.class.getDeclaredFields()));
        for (Member member : members) {
            int modifiers = member.getModifiers();
            boolean isFaceOrHidden = Modifier.isPublic(modifiers) || Modifier.isPrivate(modifiers);
            due.is(member + " is public or private", isFaceOrHidden, true);
        }
    }

    private static void rulesForAllClasses(Due due) {
        List<Class<?>> classes = new ArrayList<>(List.of(TaskWeaver.class.getDeclaredClasses()));
        for (Class<?> inner : classes) {
            due.is(inner + " is static", Modifier.isStatic(inner.getModifiers()), true);
            due.is(inner + " is public", Modifier.isPublic(inner.getModifiers()), false);
        }
        classes.add(TaskWeaver.class);
        due.is("classes are at most twelve", classes.size() <= 12, true);
        for (Class<?> one : classes) {
            rulesForOneClass(due, one);
        }
    }

    private static void rulesForOneClass(Due due, Class<?> one) {
        int ownFields = 0;
        for (Field field : one.getDeclaredFields()) {
            boolean isStatic = Modifier.isStatic(field.getModifiers());
            due.is(field + " is final if it is static", !isStatic || Modifier.isFinal(field.getModifiers()), true);
            ownFields += isStatic ? 0 : 1;
        }
        due.is(one + " has at most twenty fields", ownFields <= 20, true);
        for (Method method : one.getDeclaredMethods()) {
            due.is(method + " takes at most seven", method.getParameterCount() <= 7, true);
            boolean isHidden = !Modifier.isPublic(method.getModifiers());
            due.is(method + " bears a name of the face", isHidden && isNameOfFace(method.getName()), false);
        }
    }

    private static boolean isNameOfFace(String name) {
        for (String line : FACE) {
            if (line.contains(" " + name + "(")) {
                return true;
            }
        }
        return false;
    }
}
