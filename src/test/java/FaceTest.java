import java.lang.reflect.Constructor;
import java.lang.reflect.Field;
import java.lang.reflect.Method;
import java.lang.reflect.Modifier;
import java.util.TreeSet;

/** The class has the face of the document, and nothing besides that is not private. */
public final class FaceTest {
    private static final String[] FACE = {
        "int addMachine(int) IllegalArgumentException IllegalStateException",
        "int setMinutes(int,int,int) IndexOutOfBoundsException IllegalArgumentException",
        "int setSlot(int,int,int,int) IndexOutOfBoundsException IllegalArgumentException",
        "int planPrice(int,int,int,int) IndexOutOfBoundsException IllegalArgumentException IllegalStateException",
        "int machineCount()",
        "int slot(int,int,int) IndexOutOfBoundsException",
        "int machine(int,int) IndexOutOfBoundsException",
        "int runsOut(int,int) IndexOutOfBoundsException",
        "int pass(int) IllegalArgumentException IllegalStateException",
        "int today()",
        "int planned()",
        "int drive(int) IllegalArgumentException",
        "int visit(int,int) IllegalArgumentException IndexOutOfBoundsException",
        "int minutes(int) IllegalArgumentException",
        "int best(int,int) IllegalArgumentException",
        "int go(int,int) IllegalArgumentException",
        "long total(int) IndexOutOfBoundsException",
        "double filled()",
        "long digest()",
    };

    public static void main(String[] args) {
        Check check = new Check();
        TreeSet<String> due = new TreeSet<>(java.util.Arrays.asList(FACE));
        TreeSet<String> found = new TreeSet<>();
        TreeSet<String> publicNames = new TreeSet<>();
        for (Method method : VendingRounds.class.getDeclaredMethods()) {
            if (!Modifier.isPrivate(method.getModifiers())) {
                found.add(signature(method));
                publicNames.add(method.getName());
            }
        }
        if (!found.equals(due)) {
            check.tell("the face is " + found + ", due is " + due);
        }
        for (Method method : VendingRounds.class.getDeclaredMethods()) {
            if (Modifier.isPrivate(method.getModifiers()) && publicNames.contains(method.getName())) {
                check.tell("a private method bears the name of a public one: " + method.getName());
            }
        }
        checkClassAndFields(check);
        check.finish();
    }

    private static void checkClassAndFields(Check check) {
        int modifiers = VendingRounds.class.getModifiers();
        if (!Modifier.isPublic(modifiers) || !Modifier.isFinal(modifiers)) {
            check.tell("the class is not public and final");
        }
        for (Field field : VendingRounds.class.getDeclaredFields()) {
            if (!Modifier.isPrivate(field.getModifiers())) {
                check.tell("a field is not private: " + field.getName());
            }
        }
        Constructor<?>[] constructors = VendingRounds.class.getDeclaredConstructors();
        check.due("the number of constructors", constructors.length, 1);
        check.due("the constructor's parameters", constructors[0].getParameterCount(), 0);
        if (!Modifier.isPublic(constructors[0].getModifiers())) {
            check.tell("the constructor is not public");
        }
    }

    private static String signature(Method method) {
        StringBuilder text = new StringBuilder();
        text.append(method.getReturnType().getSimpleName()).append(' ').append(method.getName()).append('(');
        String gap = "";
        for (Class<?> parameter : method.getParameterTypes()) {
            text.append(gap).append(parameter.getSimpleName());
            gap = ",";
        }
        text.append(')');
        for (Class<?> thrown : method.getExceptionTypes()) {
            text.append(' ').append(thrown.getSimpleName());
        }
        return text.toString();
    }
}
