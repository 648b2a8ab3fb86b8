import java.lang.reflect.InvocationTargetException;
import java.lang.reflect.Method;
import java.util.Set;

/**
 * Runs of calls, each written as a text and made on a new object. A line is a
 * call and the answer that is due, or a call alone, whose answer is not looked
 * at; the line write "..." types a text, byte by byte. A call that is refused,
 * and one that only tells or asks, must leave the digest as it was.
 */
final class Script {
    private static final int MOST_CALLS = 512;
    private static final Set<String> CHANGES = Set.of("addGroup", "addTask", "move", "remove", "setDuration",
        "borrow", "giveBack", "setDeadline", "type", "clearCommands", "runCommands", "undo");
    private static int wrong = 0;
    private static int lines = 0;

    private final String title;
    private final SlackRows x = new SlackRows();
    private int calls = 0;

    private Script(String title) {
        this.title = title;
    }

    /** Runs the lines on a new object, and returns it. */
    static SlackRows run(String title, String script) throws Exception {
        Script run = new Script(title);
        for (String each : script.split("\n")) {
            int behind = each.indexOf(" // ");
            String line = (behind < 0 ? each : each.substring(0, behind)).trim();
            if (!line.isEmpty()) {
                run.line(line);
            }
        }
        if (run.calls > MOST_CALLS) {
            fault(title, "the run has " + run.calls + " calls, more than an object is used for");
        }
        return run.x;
    }

    static void same(String title, Object got, Object due) {
        lines++;
        if (!due.equals(got)) {
            fault(title, "the answer was " + got + ", due is " + due);
        }
    }

    /** Tells the count, and ends the program with 1 if an answer was wrong. */
    static void finish() {
        System.out.println(lines + " lines, " + wrong + " wrong");
        if (wrong != 0) {
            System.exit(1);
        }
    }

    private static void fault(String title, String what) {
        wrong++;
        System.out.println(title + ": " + what);
    }

    private void line(String line) throws Exception {
        if (line.startsWith("write ")) {
            write(line.substring(line.indexOf('"') + 1, line.lastIndexOf('"')));
            return;
        }
        String[] halves = line.split(" = ");
        String written = halves[0].trim();
        String name = written.substring(0, written.indexOf('('));
        if (halves.length == 1) {
            answer(name, written);
            return;
        }
        lines++;
        String due = due(halves[1].trim());
        boolean isStill = isStill(name, due);
        long before = isStill ? digest() : 0;
        String got = answer(name, written);
        if (!got.equals(due)) {
            fault(title, line + ", but the answer was " + got);
        }
        if (isStill && digest() != before) {
            fault(title, line + ", but it changed the object");
        }
    }

    /** Whether the call with this answer changes nothing. A run of commands with a fault does not. */
    private static boolean isStill(String name, String due) {
        boolean isFault = name.equals("runCommands") && due.startsWith("-");
        return isFault || due.endsWith("Exception") || !CHANGES.contains(name);
    }

    private void write(String text) {
        for (int i = 0; i < text.length(); i++) {
            calls++;
            x.type(text.charAt(i));
        }
    }

    private long digest() {
        calls++;
        return x.digest();
    }

    /** The very class is told, so that what the machine itself throws does not pass for its elder. */
    private String answer(String name, String written) throws Exception {
        String inside = written.substring(written.indexOf('(') + 1, written.length() - 1).trim();
        String[] words = inside.isEmpty() ? new String[0] : inside.split(",");
        Class<?>[] types = new Class<?>[words.length];
        Object[] values = new Object[words.length];
        for (int i = 0; i < words.length; i++) {
            types[i] = int.class;
            values[i] = Integer.parseInt(words[i].trim());
        }
        Method method = SlackRows.class.getMethod(name, types);
        calls++;
        try {
            return "" + method.invoke(x, values);
        } catch (InvocationTargetException e) {
            return e.getCause().getClass().getSimpleName();
        }
    }

    private static String due(String told) {
        switch (told) {
            case "no node": return "IndexOutOfBoundsException";
            case "range": return "IllegalArgumentException";
            case "state": return "IllegalStateException";
            default: return told;
        }
    }
}
