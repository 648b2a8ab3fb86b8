import java.util.List;

/**
 * Each sentence of the document that names a boundary case in the texts of
 * commands, in undo and in the digest, with a run of its own. The title of a
 * run is the sentence.
 */
public final class SlackRowsTextEdges {
    private static final int NO_FAULT = -1;

    private static void edge(String sentence, String script) throws Exception {
        Script.run(sentence, script);
    }

    private static String write(String text) {
        return "write \"" + text + "\"\n";
    }

    /** A text that is at fault there does nothing at all; one without fault is run, with no command carried out. */
    private static void fault(String sentence, String text, int fault) throws Exception {
        boolean isFine = fault == NO_FAULT;
        edge(sentence + ": " + text, "setDeadline(50)\n" + write(text)
            + "runCommands() = " + (isFine ? 0 : -10 - fault) + "\nwhole(11) = " + text.length()
            + "\nwhole(0) = 1\nwhole(3) = 50\nundo() = " + (isFine ? 1 : 0) + "\nundo() = " + (isFine ? "0" : "state"));
    }

    // ---- typing

    private static void typing() throws Exception {
        StringBuilder full = new StringBuilder();
        for (int length = 1; length <= 150; length++) {
            full.append("type(32) = " + length + "\n");
        }
        edge("The command text has at most 150 bytes", full + """
            type(32) = state
            type(0) = state
            type(127) = state
            type(128) = range // the first one listed
            type(-1) = range
            whole(11) = 150
            runCommands() = 0
            whole(11) = 150
            type(32) = state
            clearCommands() = 150
            whole(11) = 0
            clearCommands() = 0
            type(32) = 1
            """);
        edge("value: 0 to 127", """
            type(0) = 1
            type(127) = 2
            type(128) = range
            type(-1) = range
            type(255) = range
            type(256) = range
            type(2147483647) = range
            type(-2147483648) = range
            whole(11) = 2
            clearCommands() = 2
            clearCommands() = 0
            undo() = state
            """);
        edge("perhaps none: a text that is empty, or has spaces alone, has no fault", """
            runCommands() = 0
            write " "
            runCommands() = 0
            write "  "
            runCommands() = 0
            whole(11) = 3
            undo() = 2
            undo() = 1
            undo() = 0
            undo() = state
            """);
    }

    // ---- what can stand where

    /** The text and each one byte more: the bytes that can stand, but do not end it, those that end it, and all others. */
    private static void nextByte(String text, String canStand, String canEnd) throws Exception {
        for (char c = 0; c < 128; c++) {
            if (c == '"' || c == '\n' || c == '\r') {
                continue; // the lines of a script cannot hold them; otherBytes() types them
            }
            int due = canEnd.indexOf(c) >= 0 ? NO_FAULT : canStand.indexOf(c) >= 0 ? text.length() + 1 : text.length();
            fault("the index of the first byte that cannot stand at its place", text + c, due);
        }
    }

    private static void otherBytes() {
        for (int value : new int[] {0, 9, 10, 11, 13, 31, 33, 34, 127}) {
            for (String text : new String[] {"", "drop", "drop ", "drop 1", "drop 1 ", "drop 1;", "last 1 "}) {
                SlackRows x = new SlackRows();
                for (int i = 0; i < text.length(); i++) {
                    x.type(text.charAt(i));
                }
                x.type(value);
                Script.same("at least one space (byte 32): " + text + " and byte " + value, x.runCommands(),
                    -10 - text.length());
            }
        }
    }

    private static void places() throws Exception {
        String digits = "0123456789";
        nextByte("", "", " ");
        nextByte("   ", "", " ");
        nextByte("drop ", digits + " ", "");
        nextByte("drop    ", digits + " ", "");
        nextByte("drop 7", digits + " ", ";");
        nextByte("drop 77", digits + " ", ";");
        nextByte("drop 777", " ", ";");
        nextByte("drop 000", " ", ";");
        nextByte("drop 7 ", " ", ";");
        nextByte("drop 7;", "", " ");
        nextByte("drop 7; ", "", " ");
        nextByte("last 7", digits + " ", "");
        nextByte("last 777", " ", "");
        nextByte("last 7 ", digits + " ", "");
        nextByte("last 7 7", digits + " ", ";");
        nextByte("last 7 777 ", " ", ";");
        nextByte("move 7 7 ", digits + " ", "");
        nextByte("move 7 7 7", digits + " ", ";");
        nextByte("move 7 7 777", " ", ";");
    }

    /** A word that is complete, and what follows it. */
    private static void words() throws Exception {
        String sentence = "A word that is not one of these is at fault with its first byte, found when it is complete";
        String[] words = {"group", "task", "last", "borrow", "back", "move", "drop", "until"};
        int[] numbers = {2, 3, 2, 2, 2, 3, 1, 1};
        for (int k = 0; k < words.length; k++) {
            String word = words[k];
            int end = word.length();
            String cut = word.substring(0, end - 1);
            fault(sentence, word, end);
            fault(sentence, word + " ", end + 1);
            fault(sentence, "  " + word, end + 2);
            for (char next : new char[] {';', '1', 'A', 'Z', '`', '{', '@', '[', '-', 0, 127}) {
                fault(sentence, word + next, end);
                fault(sentence, cut + next, 0);
                fault(sentence, " " + cut + next, 1);
            }
            fault(sentence, cut, 0);
            fault(sentence, cut + " 1;", 0);
            fault(sentence, "x" + word.substring(1) + " 1;", 0);
            fault(sentence, word.substring(1) + " 1;", 0);
            fault(sentence, cut + "x 1;", 0);
            fault(sentence, word + "s 1;", 0);
            fault(sentence, word + word + " 1;", 0);
            fault(sentence, "drop 1; " + cut + " 1;", 8);
            fault(sentence, "drop 1;" + cut, 7);
            fault(sentence, "drop 1;" + word, 7 + end);
            fault(sentence, word.substring(0, 1).toUpperCase() + word.substring(1) + " 1;", 0);
            followed(word, numbers[k]);
        }
        fault(sentence, "a", 0);
        fault(sentence, "z", 0);
        fault(sentence, "abcdefghijklmnopqrstuvwxyz", 0);
    }

    private static void followed(String word, int count) throws Exception {
        String sentence = "a word of letters a to z, followed by its numbers, ... and a semicolon";
        String numbers = " 999".repeat(count);
        int end = word.length() + numbers.length();
        if (!word.equals("until")) {
            fault(sentence, word + numbers + ";", NO_FAULT);
            fault(sentence, "  " + word + "  " + numbers + "  ;  ", NO_FAULT);
        }
        fault(sentence, word + numbers, end);
        fault(sentence, word + numbers + " ", end + 1);
        fault(sentence, word + numbers + " 9;", end + 1);
        fault(sentence, word + numbers + "0;", end);
        fault(sentence, word + numbers + ";;", end + 1);
        fault(sentence, word + numbers + " ; ;", end + 3);
        fault(sentence, word + numbers + ",", end);
        fault(sentence, word + numbers.substring(4) + ";", end - 4);
        fault(sentence, word + numbers.substring(4) + " ;", end - 3);
        fault(sentence, word + numbers.substring(4) + " -1;", end - 3);
        fault(sentence, word + numbers.substring(4) + " 99x;", end - 1);
    }

    private static void digits() throws Exception {
        edge("each of one to three digits (zeros in front are allowed)", write("until 7;until 07;until 007;")
            + "runCommands() = 3\nwhole(3) = 7\nclearCommands() = 27\n"
            + write("until 0;until 00;until 000;") + "runCommands() = 3\nwhole(3) = 0\nclearCommands() = 27\n"
            + write("until 999;") + "runCommands() = 1\nwhole(3) = 999\nclearCommands() = 10\n"
            + write("until 100;until 010;") + "runCommands() = 2\nwhole(3) = 10\n");
        fault("a fourth digit cannot stand", "until 0000;", 9);
        fault("a fourth digit cannot stand", "until 1234;", 9);
        fault("a fourth digit cannot stand", "move 1234 0 0;", 8);
        fault("a fourth digit cannot stand", "move 0 1234 0;", 10);
        fault("a fourth digit cannot stand", "move 0 0 1234;", 12);
        fault("a fourth digit cannot stand", "move 0 0 123 4;", 13);
        edge("with at least one space in front. Spaces may also stand in front of a command, of a semicolon, at the end",
            write("    task   0    0    5    ;    last    1    9   ;    ")
            + "runCommands() = 2\nnode(1, 4) = 9\nclearCommands() = 53\n"
            + write("task 0 0 5;last 2 8;") + "runCommands() = 2\nnode(2, 4) = 8\n");
    }

    /** Texts of 148 to 150 bytes. */
    private static void fullTexts() throws Exception {
        String seventy = "drop 9;".repeat(20);
        String sentence = "or the length of the text if it ends too soon";
        fault(sentence, seventy + "until   10", 150);
        fault(sentence, seventy + "until 100 ", 150);
        fault(sentence, seventy + "     until", 150);
        fault(sentence, seventy + "    until ", 150);
        fault(sentence, seventy + "  until 10", 150);
        fault(sentence, seventy + "      unti", 146);
        fault(sentence, seventy + "         z", 149);
        fault(sentence, seventy + "until 10;;", 149);
        fault(sentence, seventy + "until 10 ,", 149);
        fault(sentence, seventy + "until 1000", 149);
        fault(sentence, seventy + "until 100", 149);
        fault(sentence, seventy + "until 10", 148);
        fault(sentence, seventy + "  drop 10;", NO_FAULT);
        fault(sentence, "a".repeat(150), 0);
        fault(sentence, " ".repeat(149) + "a", 149);
        fault(sentence, " ".repeat(149) + ";", 149);
        fault(sentence, " ".repeat(150), NO_FAULT);
        fault(sentence, "drop" + " ".repeat(146), 150);
        fault(sentence, "drop" + " ".repeat(145) + ";", 149);
        fault(sentence, "drop" + " ".repeat(145) + "9", 150);
        fault(sentence, "drop" + " ".repeat(144) + "9;", NO_FAULT);
        edge("a text of 150 bytes is carried out to its last command", write("until 1;".repeat(17) + "    until 999;")
            + "whole(11) = 150\nrunCommands() = 18\nwhole(3) = 999\nundo() = 0\nwhole(3) = 99\n");
        edge("a text of 150 bytes has as many commands as can be", write("until 1;".repeat(18) + "      ")
            + "whole(11) = 150\nrunCommands() = 18\nwhole(3) = 1\n");
        edge("a text of 150 bytes has as many commands as can be: that are carried out",
            "addTask(0, 0, 1)\n".repeat(22) + write("drop 1;drop 2;drop 3;drop 4;drop 5;drop 6;drop 7;drop 8;drop 9;"
            + "drop 10;drop 11;drop 12;drop 13;drop 14;drop 15;drop 16;drop 17;drop 18;  drop 19;")
            + "runCommands() = 19\nwhole(0) = 4\nundo() = 3\nwhole(0) = 23\n");
    }

    // ---- running

    private static void stops() throws Exception {
        String tree = "addTask(0, 0, 5) = 1\naddGroup(0, 0) = 2\n";
        String done = tree + write("until 7;") + "runCommands() = 1\nclearCommands() = 8\n";
        List<Long> due = Snapshot.of(done);
        String[] refused = {"group 9 0", "group 0 4", "group 1 0", "task 9 0 1", "task 0 4 1", "task 0 0 61",
            "task 1 0 1", "last 9 1", "last 1 61", "last 0 1", "last 2 60", "borrow 9 1", "borrow 1 0", "borrow 1 100",
            "borrow 0 1", "borrow 1 1", "back 9 1", "back 1 0", "back 1 100", "back 0 1", "back 1 1", "move 9 0 0",
            "move 1 9 0", "move 1 0 4", "move 0 0 0", "move 2 1 0", "move 2 2 0", "drop 9", "drop 0", "drop 999",
            "move 999 999 999", "task 999 999 999"};
        for (String command : refused) {
            String text = "until 7;" + command + ";until 8;";
            String run = tree + write(text) + "runCommands() = 1\nclearCommands() = " + text.length() + "\n";
            edge("until one of them would throw; those before it stay done, and they alone count: " + command,
                run + "whole(3) = 7\nundo() = 2\nwhole(3) = 99\n");
            Script.same("those before it stay done: " + command, Snapshot.of(run), due);
            edge("until one of them would throw, the first one: " + command, tree + write(command + ";until 8;")
                + "runCommands() = 0\nwhole(3) = 99\nundo() = 2\nundo() = 1\n");
        }
        edge("or there are 24 nodes, also in a run", "addTask(0, 0, 1)\n".repeat(21)
            + write("group 0 1;task 22 0 5;task 0 0 0;until 1;")
            + "runCommands() = 2\nwhole(0) = 24\nwhole(10) = 24\nwhole(3) = 99\nrunCommands() = 0\nundo() = 3\n"
            + "whole(0) = 24\nundo() = 2\nwhole(0) = 22\n");
    }

    private static void runs() throws Exception {
        edge("if it has a fault, nothing is done", write("until 7;until 8")
            + "runCommands() = -25\nwhole(3) = 99\nundo() = state\ntype(59) = 16\nrunCommands() = 2\nwhole(3) = 8\n"
            + "undo() = 0\n");
        edge("A run saves one state, the one from before it; its commands save none", """
            addTask(0, 0, 5) = 1
            write "task 0 0 1;task 0 0 2;task 0 0 3;last 1 9;move 1 0 3;"
            runCommands() = 5
            whole(0) = 5
            whole(11) = 53 // the text stays as it is
            undo() = 1
            whole(0) = 2
            whole(10) = 2
            node(1, 4) = 5
            whole(11) = 53
            undo() = 0
            undo() = state
            whole(11) = 53
            """);
        edge("The saved state is the one from before the call: of a run on a full stack", """
            setDeadline(1) = 0
            setDeadline(2) = 0
            setDeadline(3) = 0
            setDeadline(4) = 0
            write "until 5;until 6;"
            runCommands() = 2
            undo() = 3
            whole(3) = 4
            runCommands() = 2
            runCommands() = 2
            undo() = 3
            whole(3) = 6
            undo() = 2
            whole(3) = 4
            undo() = 1
            whole(3) = 3
            undo() = 0
            whole(3) = 2
            undo() = state
            """);
        edge("NONE is not the answer of a run", write(";") + "runCommands() = -10\n");
        edge("borrow n a, back n a: more than one in a run", """
            addTask(0, 0, 60) = 1
            addTask(0, 0, 60) = 2
            addTask(0, 1, 0) = 3
            write "borrow 3 99;borrow 3 21;borrow 3 1;"
            runCommands() = 2
            node(3, 5) = 120
            clearCommands() = 35
            write "back 3 99;back 3 21;back 3 1;"
            runCommands() = 2
            node(3, 5) = 0
            undo() = 3
            node(3, 5) = 120
            """);
    }

    // ---- undo

    private static final String[] STEPS = {
        "addGroup(0, 0)", "addTask(1, 1, 20)", "addTask(1, 0, 8)", "addTask(0, 0, 4)", "borrow(3, 5)",
        "addTask(0, 2, 30)", "move(4, 1, 1)",
    };

    private static String steps(int count) {
        StringBuilder lines = new StringBuilder();
        for (int i = 0; i < count; i++) {
            lines.append(STEPS[i]).append('\n');
        }
        return lines.toString();
    }

    /** After the calls, each undo must lead to what one step less leads to. */
    private static void undoes(String sentence, String calls, int steps) throws Exception {
        StringBuilder undos = new StringBuilder();
        for (int k = 1; k <= 4; k++) {
            undos.append("undo() = ").append(4 - k).append('\n');
            Script.same(sentence + ": undo " + k, Snapshot.of(calls + undos), Snapshot.of(steps(steps + 1 - k)));
        }
        Script.run(sentence, calls + undos + "undo() = state\n");
    }

    private static void saving() throws Exception {
        String all = steps(STEPS.length);
        String[] undoable = {"addGroup(1, 3) = 6", "addTask(5, 0, 1) = state\naddTask(0, 1, 60) = 6",
            "move(1, 0, 2) = 1", "remove(1) = 4", "remove(5) = 1", "setDuration(3, 10) = 30", "setDuration(3, 60) = 60",
            "borrow(3, 17) = 22", "giveBack(3, 5) = 0", "setDeadline(0) = 30", "runCommands() = 0"};
        for (String call : undoable) {
            undoes("The saved state is the one from before the call. " + call, all + call + "\n", STEPS.length);
        }
        String[] idle = {"setDuration(3, 8) = 30", "setDeadline(99) = 0", "move(5, 0, 2) = 0", "move(4, 1, 1) = 1",
            "runCommands() = 0"};
        for (String call : idle) {
            undoes("on an undo stack when it ends normally, also if it changes nothing. " + call, all + call + "\n",
                STEPS.length);
            Script.same("also if it changes nothing. " + call, Snapshot.of(all + call + "\n"), Snapshot.of(all));
        }
        String still = """
            addGroup(2, 0) = state
            addTask(0, 0, 61) = range
            move(0, 1, 0) = state
            move(1, 1, 0) = state
            remove(0) = state
            remove(6) = no node
            setDuration(3, 61) = range
            setDuration(1, 1) = state
            borrow(3, 18) = state
            borrow(5, 1) = state
            giveBack(3, 6) = state
            setDeadline(1000) = range
            node(3, 5) = 5
            row(1, 1, 1) = 24
            child(1, 1, 1) = 4
            critical(0) = 5
            running(12) = 3
            whole(2) = 30
            endWith(3, 60) = 60
            growsTo(3) = 30
            bestCut() = 5
            slackIf(4, 3) = 6
            reason(1, 0) = 0
            clearCommands() = 0
            write "until 7;until"
            runCommands() = -23
            clearCommands() = 13
            digest()
            """;
        undoes("A call that throws an exception changes nothing, nor does a question or typing", all + still,
            STEPS.length - 1);
    }

    private static void stack() throws Exception {
        edge("Throws IllegalStateException if the stack is empty", """
            undo() = state
            setDeadline(1) = 0
            undo() = 0
            whole(3) = 99
            undo() = state
            undo() = state
            whole(3) = 99
            setDeadline(2) = 0
            setDeadline(3) = 0
            undo() = 1
            undo() = 0
            undo() = state
            """);
        StringBuilder many = new StringBuilder();
        for (int d = 1; d <= 100; d++) {
            many.append("setDeadline(" + d + ")\n");
        }
        edge("The stack keeps the latest 4 saved states and drops older ones", many + """
            undo() = 3
            whole(3) = 99
            undo() = 2
            whole(3) = 98
            undo() = 1
            whole(3) = 97
            undo() = 0
            whole(3) = 96
            undo() = state
            setDeadline(7) = 0
            undo() = 0
            whole(3) = 96
            """);
        edge("The stack keeps the latest 4 saved states: with just 4", """
            setDeadline(1) = 0
            setDeadline(2) = 0
            setDeadline(3) = 0
            setDeadline(4) = 0
            undo() = 3
            setDeadline(5) = 0
            setDeadline(6) = 0
            undo() = 3
            whole(3) = 5
            undo() = 2
            whole(3) = 3
            undo() = 1
            whole(3) = 2
            undo() = 0
            whole(3) = 1
            undo() = state
            """);
        edge("saves the whole state but the command text", """
            write "until"
            addTask(0, 0, 5) = 1
            write " 9"
            undo() = 0
            whole(11) = 7
            addTask(0, 0, 5) = 1
            clearCommands() = 7
            undo() = 0
            whole(11) = 0
            undo() = state
            """);
    }

    private static void lastCalls() {
        SlackRows x = new SlackRows();
        for (int d = 1; d <= 506; d++) {
            x.setDeadline(d);
        }
        for (int left = 3; left >= 0; left--) {
            Script.same("An object is used for at most 512 calls: undo", x.undo(), left);
        }
        Script.same("An object is used for at most 512 calls: call 511", x.whole(3), 502);
        Script.same("An object is used for at most 512 calls: call 512", x.setDeadline(999), 0);
    }

    // ---- digest

    private static void digestOf(String sentence, int states, String script) throws Exception {
        Script.same(sentence, Script.run(sentence, script).digest(), Snapshot.digest(script, states));
    }

    private static void digests() throws Exception {
        long h = 43828L;
        long[] fresh = {0, /* whole */ 1, 0, 0, 99, 0, 0, 0, 0, 0, 0, 1, 0,
            /* the root */ 0, 0, -1, -1, -1, -1, -1, 0, 0, 0, 0, 0, 1, 0,
            /* its rows */ 0, 0, 0, 0, 0, 0, 0, 0, 0, 0, 0, 0, 0, 0, 0, 0, /* bestCut */ -1};
        for (long v : fresh) {
            h = 31 * h + v;
        }
        Script.same("It starts with h = 43828: a new object", new SlackRows().digest(), h);
        String sentence = "h becomes 31 * h + v (long arithmetic, overflow wraps)";
        String all = steps(STEPS.length);
        for (int k = 0; k <= STEPS.length; k++) {
            digestOf(sentence + ": after " + k + " steps", Math.min(k, 4), steps(k));
        }
        digestOf(sentence + ": the undo stack", 3, all + "undo()\n");
        digestOf(sentence + ": the length of the text", 4, all + write("move 9"));
        digestOf(sentence + ": a full text", 0, write(" ".repeat(150)));
        digestOf(sentence + ": numbers with gaps", 4, all + "remove(3)\naddGroup(1, 3)\n");
        digestOf(sentence + ": a lower number behind a higher one", 4, all + "move(1, 0, 3)\nmove(2, 0, 3)\n");
        digestOf(sentence + ": after all is removed", 4, all + "remove(1)\nremove(5)\n");
        digestOf(sentence + ": late", 4, all + "setDeadline(0)\nsetDuration(5, 60)\n");
        digestOf(sentence + ": 24 nodes", 4, "addGroup(0, 3)\naddTask(1, 2, 60)\n".repeat(12));
    }

    public static void main(String[] args) throws Exception {
        typing();
        places();
        otherBytes();
        words();
        digits();
        fullTexts();
        stops();
        runs();
        saving();
        stack();
        lastCalls();
        digests();
        Script.finish();
    }
}
