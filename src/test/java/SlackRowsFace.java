import java.lang.reflect.Constructor;
import java.lang.reflect.Field;
import java.lang.reflect.Member;
import java.lang.reflect.Method;
import java.lang.reflect.Modifier;
import java.util.ArrayList;
import java.util.Arrays;
import java.util.HashSet;
import java.util.List;
import java.util.Set;
import java.util.TreeSet;

/** The class has the document's face and nothing else that others can see. */
public final class SlackRowsFace {
    private static final String[] FACE = {
        "int addGroup(int,int) IndexOutOfBoundsException IllegalArgumentException IllegalStateException",
        "int addTask(int,int,int) IndexOutOfBoundsException IllegalArgumentException IllegalStateException",
        "int move(int,int,int) IndexOutOfBoundsException IllegalArgumentException IllegalStateException",
        "int remove(int) IndexOutOfBoundsException IllegalStateException",
        "int setDuration(int,int) IndexOutOfBoundsException IllegalArgumentException IllegalStateException",
        "int borrow(int,int) IndexOutOfBoundsException IllegalArgumentException IllegalStateException",
        "int giveBack(int,int) IndexOutOfBoundsException IllegalArgumentException IllegalStateException",
        "int setDeadline(int) IllegalArgumentException",
        "int node(int,int) IndexOutOfBoundsException IllegalArgumentException",
        "int row(int,int,int) IndexOutOfBoundsException IllegalArgumentException IllegalStateException",
        "int child(int,int,int) IndexOutOfBoundsException IllegalArgumentException IllegalStateException",
        "int critical(int) IllegalArgumentException",
        "int running(int) IllegalArgumentException",
        "int whole(int) IllegalArgumentException",
        "int endWith(int,int) IndexOutOfBoundsException IllegalArgumentException IllegalStateException",
        "int growsTo(int) IndexOutOfBoundsException IllegalStateException",
        "int bestCut()",
        "int slackIf(int,int) IndexOutOfBoundsException IllegalStateException",
        "int reason(int,int) IndexOutOfBoundsException",
        "int type(int) IllegalArgumentException IllegalStateException",
        "int clearCommands()",
        "int runCommands()",
        "int undo() IllegalStateException",
        "long digest()",
    };

    public static void main(String[] args) throws Exception {
        List<String> wrong = new ArrayList<>();
        Set<String> due = new TreeSet<>(Arrays.asList(FACE));
        Set<String> got = new TreeSet<>();
        Set<String> publicNames = new HashSet<>();
        for (Method method : SlackRows.class.getDeclaredMethods()) {
            if (Modifier.isPublic(method.getModifiers())) {
                got.add(described(method));
                publicNames.add(method.getName());
            } else if (!Modifier.isPrivate(method.getModifiers()) && !method.isSynthetic()) {
                wrong.add("not private: " + method);
            }
        }
        if (!got.equals(due)) {
            wrong.add("public methods are " + got + ", due are " + due);
        }
        List<Class<?>> classes = new ArrayList<>(Arrays.asList(SlackRows.class.getDeclaredClasses()));
        for (Class<?> inside : classes) {
            if (Modifier.isPublic(inside.getModifiers()) || Modifier.isProtected(inside.getModifiers())
                    || !Modifier.isStatic(inside.getModifiers())) {
                wrong.add("a class inside is not static, or to be seen: " + inside);
            }
        }
        classes.add(SlackRows.class);
        for (Class<?> each : classes) {
            for (Method method : each.getDeclaredMethods()) {
                boolean isPublicFace = each == SlackRows.class && Modifier.isPublic(method.getModifiers());
                if (!isPublicFace && publicNames.contains(method.getName())) {
                    wrong.add("bears the name of a public method: " + method);
                }
            }
            for (Field field : each.getDeclaredFields()) {
                if (Modifier.isStatic(field.getModifiers()) && !Modifier.isFinal(field.getModifiers())) {
                    wrong.add("static and not final: " + field);
                }
            }
        }
        for (Field field : SlackRows.class.getDeclaredFields()) {
            if (!field.isSynthetic() && !Modifier.isPrivate(field.getModifiers()) && !field.getName().equals("NONE")) {
                wrong.add("not private: " + field);
            }
        }
        Field none = SlackRows.class.getField("NONE");
        if (none.getType() != int.class || !isConstant(none) || none.getInt(null) != -1) {
            wrong.add("NONE is not the constant -1");
        }
        Constructor<?>[] constructors = SlackRows.class.getDeclaredConstructors();
        if (constructors.length != 1 || constructors[0].getParameterCount() != 0
                || !Modifier.isPublic(constructors[0].getModifiers())) {
            wrong.add("the constructors are " + Arrays.toString(constructors));
        }
        if (SlackRows.class.getModifiers() != (Modifier.PUBLIC | Modifier.FINAL)) {
            wrong.add("the class is not public and final");
        }
        for (String line : wrong) {
            System.out.println(line);
        }
        System.out.println(wrong.isEmpty() ? "the face is as due" : wrong.size() + " faults of the face");
        if (!wrong.isEmpty()) {
            System.exit(1);
        }
    }

    private static boolean isConstant(Member member) {
        return member.getModifiers() == (Modifier.PUBLIC | Modifier.STATIC | Modifier.FINAL);
    }

    private static String described(Method method) {
        StringBuilder text = new StringBuilder();
        text.append(method.getReturnType().getName()).append(' ').append(method.getName()).append('(');
        for (int i = 0; i < method.getParameterCount(); i++) {
            text.append(i == 0 ? "" : ",").append(method.getParameterTypes()[i].getName());
        }
        text.append(')');
        for (Class<?> thrown : method.getExceptionTypes()) {
            text.append(' ').append(thrown.getSimpleName());
        }
        return text.toString();
    }
}
