/**
 * Each sentence of the document that names a boundary case in the tree, its
 * times, its changes and its questions, with a run of its own. The title of a
 * run is the sentence. Command texts and undo stand in SlackRowsTextEdges.
 */
public final class SlackRowsEdges {
    private static final String LEAST = "-2147483648";
    private static final String MOST = "2147483647";

    private static void edge(String sentence, String script) throws Exception {
        Script.run(sentence, script);
    }

    /** Lines that add the nodes first to last, each with the same call. */
    private static String adds(String call, int first, int last) {
        StringBuilder lines = new StringBuilder();
        for (int n = first; n <= last; n++) {
            lines.append(call).append(" = ").append(n).append('\n');
        }
        return lines.toString();
    }

    /** The same call, its @ replaced by each of the words, with the same answer. */
    private static String each(String call, String due, String... words) {
        StringBuilder lines = new StringBuilder();
        for (String word : words) {
            lines.append(call.replace("@", word)).append(" = ").append(due).append('\n');
        }
        return lines.toString();
    }

    // ---- the tree

    private static void counts() throws Exception {
        edge("There are at most 24 nodes at one time: tasks", adds("addTask(0, 0, 1)", 1, 23) + """
            whole(0) = 24
            addTask(0, 0, 1) = state
            addTask(0, 3, 1) = state
            addGroup(0, 0) = state
            move(1, 0, 1) = 0 // all else can be done
            setDuration(1, 60) = 60
            remove(1) = 1
            addGroup(0, 3) = 24
            whole(0) = 24
            addGroup(24, 0) = state
            addTask(24, 0, 1) = state
            remove(24) = 1
            addTask(0, 0, 60) = 25
            whole(0) = 24
            whole(10) = 26
            addTask(0, 0, 1) = state
            undo() = 3
            whole(0) = 23
            addTask(0, 0, 1) = 25
            addTask(0, 0, 1) = state
            """);
        edge("There are at most 24 nodes at one time: groups", adds("addGroup(0, 2)", 1, 22) + """
            whole(0) = 23
            addGroup(22, 0) = 23
            addGroup(22, 0) = state
            addGroup(23, 0) = state
            addTask(23, 0, 0) = state
            remove(22) = 2
            whole(0) = 22
            addGroup(0, 0) = 24
            addTask(24, 0, 0) = 25
            addTask(24, 0, 0) = state
            whole(10) = 26
            """);
        edge("each gets the next number, from 0 on, when it is added", """
            addTask(0, 0, 1) = 1
            addTask(0, 4, 1) = range // no number goes with a refused call
            addTask(0, 0, 61) = range
            addTask(9, 0, 1) = no node
            addTask(1, 0, 1) = state
            addGroup(0, 4) = range
            addGroup(2, 0) = no node
            addGroup(1, 0) = state
            whole(10) = 2
            addGroup(0, 0) = 2
            move(1, 2, 0) = 0
            setDuration(1, 3) = 3
            addTask(0, 0, 1) = 3
            whole(10) = 4
            """);
        edge("numbers are not used again (but by undo())", """
            addTask(0, 0, 1) = 1
            addTask(0, 0, 1) = 2
            remove(2) = 1 // the latest one
            addTask(0, 0, 5) = 3
            node(2, 0) = no node
            remove(1) = 1
            remove(3) = 1 // all of them
            whole(0) = 1
            whole(10) = 4
            addGroup(0, 0) = 4
            undo() = 3
            node(4, 0) = no node
            whole(10) = 4
            addTask(0, 1, 7) = 4
            node(4, 0) = 1
            undo() = 3
            undo() = 2
            node(3, 4) = 5
            whole(10) = 4
            addTask(0, 0, 1) = 4
            """);
        SlackRows x = new SlackRows();
        for (int n = 1; n <= 256; n++) {
            Script.same("numbers are not used again: the number", x.addTask(0, n % 4, n % 61), n);
            if (n < 256) {
                Script.same("numbers are not used again: " + n, x.remove(n), 1);
            }
        }
        Script.same("numbers are not used again: after all", x.node(256, 4), 256 % 61);
    }

    private static void root() throws Exception {
        edge("The node 0 is the root, a group, which is there from the beginning", """
            node(0, 0) = 0
            node(0, 1) = -1
            node(0, 2) = -1
            node(0, 3) = -1
            node(0, 4) = -1
            node(0, 5) = -1
            node(0, 6) = 0
            node(0, 7) = 0
            node(0, 8) = 0
            node(0, 9) = 0
            node(0, 10) = 0
            node(0, 11) = 1
            node(0, 12) = 0
            node(1, 0) = no node
            row(0, 0, 0) = 0
            row(0, 3, 0) = 0
            child(0, 0, 0) = -1
            child(0, 3, 0) = -1
            remove(0) = state
            move(0, 0, 0) = state
            setDuration(0, 1) = state
            borrow(0, 1) = state
            giveBack(0, 1) = state
            endWith(0, 1) = state
            growsTo(0) = state
            slackIf(0, 0) = state
            reason(0, 0) = 1
            """);
        edge("Every other node is a group or a task, and is a child of a group: in none but the named one", """
            addGroup(0, 1) = 1
            addGroup(1, 2) = 2
            addTask(2, 3, 4) = 3
            addTask(3, 0, 1) = state
            addGroup(3, 0) = state
            row(0, 1, 0) = 1
            row(1, 2, 0) = 1
            row(2, 3, 0) = 1
            row(0, 2, 0) = 0
            row(0, 3, 0) = 0
            child(0, 1, 1) = -1
            node(3, 1) = 2
            node(3, 2) = 3
            """);
    }

    private static void rows() throws Exception {
        edge("in one of its rows, 0 to 3", """
            addGroup(0, 0) = 1
            addGroup(0, 3) = 2
            addTask(0, 0, 1) = 3
            addTask(0, 3, 1) = 4
            move(3, 0, 3) = 2
            move(3, 0, 0) = 1
            row(0, 0, 0) = 2
            row(0, 3, 0) = 2
            child(0, 0, 1) = 3
            child(0, 3, 1) = 4
            """
            + each("addGroup(0, @)", "range", "-1", "4", LEAST, MOST)
            + each("addTask(0, @, 1)", "range", "-1", "4", LEAST, MOST)
            + each("move(3, 0, @)", "range", "-1", "4", LEAST, MOST)
            + each("row(0, @, 0)", "range", "-1", "4", LEAST, MOST)
            + each("child(0, @, 0)", "range", "-1", "4", LEAST, MOST));
        edge("The children of a row stand in the order in which they came into it", """
            addTask(0, 0, 1) = 1
            addTask(0, 0, 2) = 2
            addTask(0, 0, 3) = 3
            move(1, 0, 0) = 2
            child(0, 0, 0) = 2
            child(0, 0, 1) = 3
            child(0, 0, 2) = 1
            node(2, 7) = 0
            node(3, 7) = 2
            node(1, 7) = 5
            move(1, 0, 0) = 2 // the last one stays
            child(0, 0, 2) = 1
            child(0, 0, 0) = 2
            undo() = 3
            node(1, 3) = 2
            undo() = 2
            node(1, 3) = 0
            node(3, 3) = 2
            move(2, 0, 1) = 0 // out of the middle
            node(3, 3) = 1
            node(3, 7) = 1
            child(0, 0, 2) = -1
            move(2, 0, 0) = 2
            child(0, 0, 1) = 3
            remove(3) = 1 // out of the middle
            node(2, 3) = 1
            node(2, 7) = 1
            undo() = 3
            node(3, 3) = 1
            node(2, 3) = 2
            node(2, 7) = 4
            """);
        edge("their places are numbered from 0", adds("addTask(0, 2, 1)", 1, 23) + """
            node(1, 3) = 0
            node(23, 3) = 22
            node(23, 7) = 22
            child(0, 2, 0) = 1
            child(0, 2, 22) = 23
            child(0, 2, 23) = -1
            child(0, 2, 24) = -1
            move(1, 0, 2) = 22
            child(0, 2, 22) = 1
            child(0, 2, 0) = 2
            node(23, 3) = 21
            move(1, 0, 2) = 22
            move(1, 0, 3) = 0
            child(0, 2, 22) = -1
            """);
    }

    private static void lengths() throws Exception {
        edge("A task has a duration (0 to 60) and a reserve (0 at first)", """
            addTask(0, 0, 0) = 1
            addTask(0, 1, 60) = 2
            node(1, 4) = 0
            node(1, 5) = 0
            node(1, 6) = 0
            node(2, 4) = 60
            node(2, 5) = 0
            node(2, 6) = 60
            borrow(1, 7) = 7
            remove(1) = 1
            addTask(0, 0, 3) = 3
            node(3, 5) = 0 // not what another one left
            setDuration(3, 60) = 60
            setDuration(3, 0) = 60
            endWith(3, 60) = 60
            endWith(3, 0) = 60
            """
            + each("addTask(0, 0, @)", "range", "-1", "61", LEAST, MOST)
            + each("setDuration(3, @)", "range", "-1", "61", LEAST, MOST)
            + each("endWith(3, @)", "range", "-1", "61", LEAST, MOST));
        edge("The length of a row is the sum of the lengths of its children (0 without children)", """
            row(0, 0, 1) = 0
            row(0, 0, 2) = 0
            addTask(0, 2, 5) = 1
            row(0, 0, 1) = 0
            row(0, 1, 1) = 0
            row(0, 2, 1) = 5
            row(0, 3, 1) = 0
            row(0, 0, 2) = 5
            addGroup(0, 0) = 2
            row(0, 0, 1) = 0
            node(2, 6) = 0
            row(2, 3, 1) = 0
            row(2, 3, 2) = 0
            addTask(0, 2, 60) = 3
            addTask(0, 2, 0) = 4
            row(0, 2, 1) = 65
            addTask(2, 1, 4) = 5
            addTask(2, 1, 3) = 6
            row(0, 0, 1) = 7
            borrow(5, 2) = 2
            row(2, 1, 1) = 9
            row(0, 0, 1) = 9
            remove(1) = 1
            remove(3) = 1
            row(0, 2, 1) = 0
            remove(4) = 1
            row(0, 2, 1) = 0
            row(0, 2, 2) = 9
            """);
        edge("the length of a group is the greatest length of its rows", """
            addTask(0, 0, 1) = 1
            whole(2) = 1
            addTask(0, 1, 2) = 2
            whole(2) = 2
            addTask(0, 2, 3) = 3
            whole(2) = 3
            addTask(0, 3, 4) = 4
            whole(2) = 4
            setDuration(3, 5) = 5
            setDuration(2, 6) = 6
            setDuration(1, 7) = 7
            setDuration(1, 6) = 6 // two are the greatest
            row(0, 0, 2) = 0
            row(0, 1, 2) = 0
            row(0, 2, 2) = 1
            row(0, 3, 2) = 2
            setDuration(2, 0) = 6
            setDuration(1, 0) = 5
            row(0, 1, 2) = 5
            remove(3) = 1
            whole(2) = 4
            remove(4) = 1
            whole(2) = 0
            """);
    }

    // ---- times and slack

    private static void starts() throws Exception {
        edge("The first child of a row starts when its group does", """
            addTask(0, 0, 7) = 1
            addGroup(0, 0) = 2
            addTask(2, 0, 1) = 3
            addGroup(2, 3) = 4
            addTask(4, 1, 1) = 5
            addTask(0, 3, 1) = 6
            node(2, 7) = 7
            node(3, 7) = 7
            node(4, 7) = 7
            node(5, 7) = 7
            node(6, 7) = 0
            move(1, 4, 2) = 0
            node(1, 7) = 0
            node(5, 7) = 0
            """);
        edge("each other one when the child ahead of it in the row ends", """
            addTask(0, 0, 5) = 1
            addTask(0, 0, 0) = 2
            addGroup(0, 0) = 3
            addTask(0, 0, 4) = 4
            addTask(0, 1, 20) = 5
            node(1, 7) = 0
            node(2, 7) = 5
            node(3, 7) = 5 // behind one without length
            node(4, 7) = 5 // behind an empty group
            borrow(1, 3) = 3 // a reserve is a part of the length
            node(2, 7) = 8
            node(4, 7) = 8
            node(5, 7) = 0
            borrow(2, 8) = 8
            node(3, 7) = 16
            node(4, 7) = 16
            node(4, 8) = 16
            whole(2) = 20
            """);
    }

    /** Eleven groups, each in the one before with a task beside it that is 5 longer than what is in it. */
    private static String nested() {
        StringBuilder lines = new StringBuilder();
        for (int i = 0; i < 11; i++) {
            int parent = i == 0 ? 0 : 2 * i - 1;
            lines.append("addGroup(" + parent + ", 0) = " + (2 * i + 1) + "\n");
            lines.append("addTask(" + parent + ", 1, " + (60 - 5 * i) + ") = " + (2 * i + 2) + "\n");
        }
        return lines + "addTask(21, 0, 2) = 23\n";
    }

    private static void slack() throws Exception {
        edge("The slack of a node is the slack of its row plus the slack of its group", nested() + """
            whole(0) = 24
            whole(2) = 60
            node(21, 10) = 8
            node(21, 9) = 58
            node(23, 10) = 0
            node(23, 9) = 58
            node(22, 9) = 50
            node(23, 8) = 58
            node(23, 12) = 12
            node(1, 9) = 5
            node(3, 9) = 10
            slackIf(22, 23) = 50
            slackIf(21, 23) = 0
            growsTo(23) = 60
            endWith(23, 60) = 60
            borrow(23, 59) = state
            borrow(23, 58) = 58
            node(23, 9) = 0
            node(22, 9) = 50 // now of its row alone
            node(22, 10) = 50
            whole(2) = 60
            whole(5) = 2
            whole(6) = 13 // two of the root, one of each other group
            growsTo(23) = 60
            bestCut() = -1
            """);
        StringBuilder chain = new StringBuilder();
        for (int n = 1; n <= 22; n++) {
            chain.append("addGroup(" + (n - 1) + ", " + n % 4 + ") = " + n + "\n");
        }
        edge("12 number of groups above it: as deep as can be", chain + """
            addTask(22, 3, 9) = 23
            node(23, 12) = 23
            node(22, 12) = 22
            node(1, 12) = 1
            node(0, 12) = 0
            node(23, 9) = 0
            whole(2) = 9
            whole(5) = 1
            whole(6) = 23
            bestCut() = 23
            endWith(23, 60) = 60
            endWith(23, 0) = 0
            growsTo(23) = 9
            reason(1, 22) = 3
            reason(22, 1) = 0
            reason(1, 23) = 2
            move(1, 22, 0) = state
            move(22, 1, 0) = 0
            node(23, 12) = 3
            undo() = 3
            node(23, 12) = 23
            remove(1) = 23
            whole(0) = 1
            whole(2) = 0
            undo() = 3
            node(23, 12) = 23
            whole(2) = 9
            """);
        edge("if a node starts later, or a task becomes longer, by no more than the slack, the end stays", """
            addGroup(0, 0) = 1
            addTask(1, 0, 5) = 2
            addTask(1, 1, 8) = 3
            addTask(0, 0, 1) = 4
            addTask(0, 1, 14) = 5
            node(2, 9) = 8
            endWith(2, 13) = 14
            endWith(2, 14) = 15
            node(3, 9) = 5
            endWith(3, 13) = 14
            endWith(3, 14) = 15
            node(4, 9) = 5
            endWith(4, 6) = 14
            endWith(4, 7) = 15
            node(5, 9) = 0
            endWith(5, 14) = 14
            endWith(5, 15) = 15
            move(2, 0, 3) = 0
            addTask(0, 3, 1) = 6
            move(2, 0, 3) = 1
            node(2, 7) = 1
            whole(2) = 14
            """);
    }

    private static void criticality() throws Exception {
        edge("A node is critical if its slack is 0", """
            addTask(0, 0, 5) = 1
            addTask(0, 1, 4) = 2
            node(1, 11) = 1
            node(2, 9) = 1
            node(2, 11) = 0
            setDuration(2, 5) = 5
            node(2, 11) = 1
            node(1, 11) = 1
            setDuration(2, 6) = 6
            node(1, 11) = 0
            whole(5) = 1
            """);
        edge("a row if its slack is 0, its group is critical, and it has children", """
            row(0, 0, 2) = 0
            row(0, 0, 3) = 0 // none of its rows has children
            whole(6) = 0
            addGroup(0, 0) = 1
            row(0, 0, 3) = 1 // an empty group is a child
            row(0, 1, 3) = 0
            row(1, 0, 2) = 0
            row(1, 0, 3) = 0
            whole(6) = 1
            whole(5) = 0
            addTask(1, 0, 0) = 2
            row(1, 0, 3) = 1
            row(1, 1, 3) = 0
            whole(5) = 1
            whole(6) = 2
            addTask(0, 1, 1) = 3
            row(0, 0, 2) = 1
            row(0, 0, 3) = 0
            row(1, 0, 2) = 0
            row(1, 0, 3) = 0 // its group is not critical
            row(0, 1, 3) = 1
            whole(5) = 1
            whole(6) = 1
            setDuration(2, 1) = 1
            whole(5) = 2
            whole(6) = 3
            remove(3) = 1
            whole(6) = 2
            """);
        edge("There is a deadline (0 to 999; 99 at first). The lateness is ... at least 0", """
            whole(3) = 99
            addTask(0, 0, 60) = 1
            whole(4) = 0
            addTask(0, 0, 39) = 2
            whole(2) = 99
            whole(4) = 0
            setDuration(2, 40) = 100
            whole(4) = 1
            setDeadline(101) = 0
            setDeadline(100) = 0
            setDeadline(99) = 1
            setDeadline(0) = 100
            setDeadline(999) = 0
            whole(3) = 999
            """ + each("setDeadline(@)", "range", "-1", "1000", LEAST, MOST));
        String late = adds("addTask(0, 0, 60)", 1, 17);
        edge("The lateness is the end minus the deadline: beyond the greatest deadline", late + """
            setDeadline(999) = 21
            whole(2) = 1020
            whole(4) = 21
            setDuration(1, 39) = 999
            whole(4) = 0
            """);
    }

    // ---- changes

    private static void reserves() throws Exception {
        edge("its reserve becomes greater by an amount that is not greater than its slack", """
            addTask(0, 0, 60) = 1
            addTask(0, 0, 60) = 2
            addTask(0, 0, 60) = 3
            addTask(0, 1, 0) = 4
            node(4, 9) = 180
            borrow(4, 1) = 1
            borrow(4, 99) = 100
            node(4, 9) = 80
            borrow(4, 81) = state
            borrow(4, 80) = 180
            node(4, 6) = 180
            borrow(4, 1) = state // nothing is left
            borrow(1, 1) = state // nothing was there
            node(4, 5) = 180
            """ + each("borrow(4, @)", "range", "0", "-1", "100", LEAST, MOST));
        edge("It can give back a part of its reserve", """
            addTask(0, 0, 60) = 1
            addTask(0, 0, 60) = 2
            addTask(0, 1, 0) = 3
            giveBack(3, 1) = state
            borrow(3, 99) = 99
            borrow(3, 21) = 120
            giveBack(3, 1) = 119
            giveBack(3, 99) = 20
            giveBack(3, 21) = state
            giveBack(3, 20) = 0 // all of it
            giveBack(3, 1) = state
            node(3, 9) = 120
            """ + each("giveBack(3, @)", "range", "0", "-1", "100", LEAST, MOST));
        edge("its reserve becomes less by as much as it grew, but not less than 0", """
            addTask(0, 0, 10) = 1
            addTask(0, 1, 50) = 2
            borrow(1, 5) = 5
            endWith(1, 11) = 50
            setDuration(1, 11) = 50 // by 1
            node(1, 5) = 4
            node(1, 6) = 15
            setDuration(1, 14) = 50 // by one less than the reserve
            node(1, 5) = 1
            node(1, 6) = 15
            setDuration(1, 15) = 50 // by just the reserve
            node(1, 5) = 0
            node(1, 6) = 15
            setDuration(1, 16) = 50 // none is left
            node(1, 5) = 0
            node(1, 6) = 16
            borrow(1, 3) = 3
            setDuration(1, 20) = 50 // by one more than the reserve
            node(1, 5) = 0
            node(1, 6) = 20
            borrow(1, 30) = 30
            setDuration(1, 60) = 60 // beyond the end
            node(1, 5) = 0
            whole(8) = 0
            """);
        edge("When it becomes less, the reserve stays", """
            addTask(0, 0, 10) = 1
            addTask(0, 1, 50) = 2
            borrow(1, 5) = 5
            setDuration(1, 9) = 50
            node(1, 5) = 5
            node(1, 6) = 14
            setDuration(1, 9) = 50 // the same
            node(1, 5) = 5
            setDuration(1, 0) = 50
            node(1, 5) = 5
            node(1, 6) = 5
            setDuration(1, 5) = 50
            node(1, 5) = 0
            """);
    }

    private static void moves() throws Exception {
        String tree = """
            addGroup(0, 0) = 1
            addTask(0, 0, 2) = 2
            addTask(1, 1, 3) = 3
            addGroup(1, 1) = 4
            addTask(4, 2, 6) = 5
            borrow(3, 1) = state
            """;
        edge("it leaves its place, with all nodes below it", tree + """
            whole(2) = 11
            move(1, 0, 0) = 1 // its own row
            node(2, 7) = 0
            node(5, 7) = 5
            node(5, 1) = 4
            node(4, 1) = 1
            move(1, 0, 3) = 0 // another row of its own group
            node(1, 7) = 0
            node(5, 7) = 3
            whole(2) = 9
            move(4, 0, 3) = 1 // to the group of its group
            node(5, 12) = 2
            node(5, 7) = 3
            node(1, 6) = 3
            move(1, 4, 2) = 1 // below what was below it
            node(1, 1) = 4
            node(3, 12) = 3
            node(3, 7) = 6
            whole(2) = 9
            whole(0) = 6
            row(0, 3, 0) = 1
            """);
        edge("it can be removed, with all nodes below it", tree + """
            remove(5) = 1
            undo() = 3
            remove(4) = 2
            node(4, 0) = no node
            node(5, 0) = no node
            node(3, 0) = 1
            undo() = 3
            remove(1) = 4
            whole(0) = 2
            child(0, 0, 0) = 2
            node(2, 7) = 0
            remove(2) = 1
            whole(0) = 1
            whole(1) = 0
            whole(2) = 0
            remove(2) = no node
            remove(0) = state
            whole(10) = 6
            """);
    }

    // ---- exceptions

    private static void refusals() throws Exception {
        String tree = """
            addGroup(0, 0) = 1
            addTask(1, 0, 5) = 2
            """;
        for (String number : new String[] {"-1", "3", "4", LEAST, MOST}) {
            edge("if there is no such node: " + number, tree
                + each("@", "no node", "addGroup(N, 4)", "addTask(N, 4, 61)", "addTask(N, 0, 0)", "move(N, 0, 0)",
                    "move(2, N, 0)", "move(N, N, 4)", "move(2, N, 4)", "move(0, N, 4)", "remove(N)",
                    "setDuration(N, 61)", "setDuration(N, 0)", "borrow(N, 0)", "borrow(N, 1)", "giveBack(N, 100)",
                    "giveBack(N, 1)", "node(N, 13)", "node(N, 0)", "row(N, 4, 4)", "row(N, 0, 0)", "child(N, 4, -1)",
                    "child(N, 0, 0)", "endWith(N, 61)", "endWith(N, 0)", "growsTo(N)", "slackIf(N, 2)",
                    "slackIf(2, N)", "slackIf(N, 0)", "slackIf(0, N)", "reason(N, 0)", "reason(0, N)", "reason(N, N)")
                    .replace("N", number));
        }
        edge("the one that is listed first is thrown: a range ahead of a state", tree
            + each("@", "range", "addGroup(2, 4)", "addTask(2, 4, 0)", "addTask(2, 0, 61)", "move(0, 1, 4)",
                "move(1, 2, -1)", "move(1, 1, 4)", "setDuration(1, 61)", "setDuration(0, -1)", "borrow(1, 0)",
                "borrow(2, 100)", "giveBack(1, 100)", "giveBack(2, 0)", "row(2, 4, 0)", "row(2, 0, 4)",
                "child(2, 4, 0)", "child(2, 0, -1)", "endWith(1, 61)", "endWith(0, -1)"));
        edge("the one that is listed first is thrown: a state alone", tree
            + each("@", "state", "addGroup(2, 3)", "addTask(2, 3, 60)", "move(0, 1, 3)", "move(0, 2, 0)",
                "move(1, 2, 0)", "move(1, 1, 0)", "move(2, 2, 0)", "remove(0)", "setDuration(1, 60)", "borrow(1, 99)",
                "borrow(2, 1)", "giveBack(1, 1)", "giveBack(2, 1)", "row(2, 3, 3)", "child(2, 3, 0)", "child(2, 3, 9)",
                "endWith(1, 60)", "growsTo(1)", "slackIf(2, 1)", "slackIf(2, 0)"));
        edge("the one that is listed first is thrown: a full tree", adds("addTask(0, 0, 1)", 1, 23)
            + each("@", "no node", "addGroup(24, 0)", "addTask(24, 0, 0)", "addGroup(-1, 4)")
            + each("@", "range", "addGroup(0, 4)", "addTask(0, 4, 0)", "addTask(0, 0, 61)", "addTask(1, 0, -1)")
            + each("@", "state", "addGroup(0, 0)", "addTask(0, 0, 0)", "addGroup(23, 0)", "addTask(23, 0, 0)"));
        edge("NONE is returned only if no exception applies", tree + """
            child(0, 0, 1) = -1
            child(2, 0, 1) = state
            child(3, 0, 1) = no node
            child(0, 4, 1) = range
            critical(1) = -1
            critical(-1) = range
            node(0, 1) = -1
            node(0, 4) = -1
            """);
    }

    // ---- values

    private static void values() throws Exception {
        edge("what: 0 to 12, of a node", """
            addTask(0, 0, 5) = 1
            node(1, 0) = 1
            node(1, 12) = 1
            node(0, 12) = 0
            """ + each("node(1, @)", "range", "-1", "13", LEAST, MOST) + each("node(0, @)", "range", "-1", "13"));
        edge("what: 0 to 3, of a row", """
            addTask(0, 0, 5) = 1
            row(0, 0, 0) = 1
            row(0, 0, 3) = 1
            """ + each("row(0, 0, @)", "range", "-1", "4", LEAST, MOST));
        edge("what: 0 to 11, of the whole", """
            whole(0) = 1
            whole(11) = 0
            """ + each("whole(@)", "range", "-1", "12", LEAST, MOST));
        edge("1 tasks, 7 sum of all durations, 8 sum of all reserves: from none to all", """
            whole(1) = 0
            whole(7) = 0
            whole(8) = 0
            addGroup(0, 3) = 1
            addTask(1, 0, 0) = 2
            whole(0) = 3
            whole(1) = 1 // groups are none, tasks without length are some
            whole(7) = 0
            addTask(1, 0, 60) = 3
            borrow(2, 1) = state
            addTask(0, 3, 60) = 4
            addTask(0, 0, 1) = 5
            borrow(5, 99) = 99
            borrow(5, 20) = 119
            addTask(0, 1, 10) = 6
            borrow(6, 1) = 1
            whole(1) = 5
            whole(7) = 131
            whole(8) = 120
            whole(2) = 120
            whole(5) = 4 // 6 has slack
            remove(5) = 1
            whole(8) = 1
            giveBack(6, 1) = 0
            whole(8) = 0
            remove(1) = 3
            whole(1) = 2
            whole(7) = 70
            undo() = 3
            whole(1) = 4
            whole(7) = 130
            """);
        edge("1 tasks, 7 sum of all durations: of a full tree", adds("addTask(0, 1, 60)", 1, 23) + """
            whole(1) = 23
            whole(2) = 1380
            whole(4) = 1281
            whole(5) = 23
            whole(7) = 1380
            whole(9) = 1
            critical(22) = 23
            critical(23) = -1
            node(23, 7) = 1320
            running(1379) = 1
            running(1380) = 0
            """);
        edge("NONE if there are not so many: children", """
            addTask(0, 3, 5) = 1
            addTask(0, 3, 5) = 2
            child(0, 3, 1) = 2
            """ + each("child(0, 3, @)", "-1", "2", "3", "24", MOST) + each("child(0, 0, @)", "-1", "0", "1", MOST)
            + each("child(0, 3, @)", "range", "-1", LEAST));
        edge("NONE if there are not so many: critical tasks", each("critical(@)", "-1", "0", "1", MOST) + """
            addGroup(0, 0) = 1
            critical(0) = -1 // a group is no task
            addTask(1, 0, 0) = 2
            critical(0) = 2
            """ + each("critical(@)", "-1", "1", "2", "23", "24", MOST) + each("critical(@)", "range", "-1", LEAST));
        edge("in the order of their starts, those with the same start by their numbers", """
            addTask(0, 0, 0) = 1
            addTask(0, 0, 3) = 2
            addTask(0, 1, 3) = 3
            addTask(0, 0, 0) = 4
            addTask(0, 2, 2) = 5
            move(1, 0, 0) = 2 // 4 and 1 start at 3
            critical(0) = 2
            critical(1) = 3
            critical(2) = 1
            critical(3) = 4
            critical(4) = -1
            setDuration(5, 3) = 3
            critical(2) = 5
            critical(4) = 4
            critical(5) = -1
            """);
    }

    private static void running() throws Exception {
        edge("those with start <= time < start + length", """
            running(0) = 0
            addTask(0, 0, 3) = 1
            addTask(0, 0, 0) = 2
            addTask(0, 0, 2) = 3
            running(0) = 1
            running(2) = 1
            running(3) = 1 // 3 alone
            running(4) = 1
            running(5) = 0
            addTask(0, 1, 3) = 4
            running(2) = 2
            running(3) = 1
            """ + each("running(@)", "0", "5", "6", MOST) + each("running(@)", "range", "-1", LEAST));
        edge("the greatest number of tasks that run at one time", """
            whole(9) = 0
            addTask(0, 0, 0) = 1
            whole(9) = 0 // without length none runs
            addTask(0, 0, 5) = 2
            whole(9) = 1
            addTask(0, 0, 5) = 3
            whole(9) = 1 // one ends when the other starts
            addTask(0, 1, 5) = 4
            addTask(0, 1, 0) = 5
            whole(9) = 2
            addTask(0, 2, 4) = 6
            addTask(0, 2, 1) = 7
            addTask(0, 2, 1) = 8
            whole(9) = 3
            addGroup(0, 3) = 9
            whole(9) = 3
            setDuration(4, 10) = 10
            borrow(6, 4) = 4
            move(2, 0, 0) = 2
            whole(9) = 3
            """);
    }

    // ---- what if

    private static void whatIf() throws Exception {
        edge("the end that there would be with another duration of a task, as setDuration() would leave it", """
            addTask(0, 0, 10) = 1
            addTask(0, 1, 15) = 2
            borrow(1, 5) = 5
            endWith(1, 10) = 15
            endWith(1, 15) = 15
            endWith(1, 16) = 16
            endWith(1, 60) = 60
            endWith(1, 0) = 15
            endWith(2, 0) = 15
            endWith(2, 14) = 15
            endWith(2, 15) = 15
            setDuration(2, 0) = 15
            endWith(1, 9) = 14
            endWith(1, 0) = 5 // the reserve stays
            """);
        edge("the greatest duration of a task with which the end would not be later ... at most 60", """
            addTask(0, 0, 5) = 1
            growsTo(1) = 5 // no slack
            addTask(0, 1, 59) = 2
            growsTo(1) = 59
            growsTo(2) = 59
            setDuration(2, 60) = 60
            growsTo(1) = 60
            growsTo(2) = 60
            addTask(0, 1, 1) = 3
            growsTo(1) = 60 // it could be 61
            borrow(1, 56) = 56
            node(1, 9) = 0
            growsTo(1) = 60 // of a length of 61
            giveBack(1, 2) = 54
            growsTo(1) = 60
            setDuration(3, 0) = 60
            borrow(1, 1) = 55
            growsTo(1) = 60
            setDuration(2, 0) = 60
            setDuration(1, 0) = 55
            growsTo(1) = 55 // just the reserve
            growsTo(3) = 55
            """);
        edge("the greatest duration of a task: from 0, and with nothing else", """
            addTask(0, 0, 0) = 1
            growsTo(1) = 0
            addTask(0, 1, 0) = 2
            growsTo(2) = 0
            setDuration(1, 1) = 1
            growsTo(2) = 1
            growsTo(1) = 1
            """);
        edge("the lowest number of those with a duration of at least 1; NONE if there is none", """
            bestCut() = -1
            addTask(0, 0, 0) = 1
            bestCut() = -1
            addTask(0, 0, 1) = 2
            bestCut() = 2
            setDuration(1, 1) = 2
            bestCut() = 1
            move(1, 0, 0) = 1
            bestCut() = 1
            addTask(0, 1, 1) = 3
            bestCut() = 1
            setDuration(3, 2) = 2
            bestCut() = -1
            setDuration(3, 3) = 3
            bestCut() = 3
            addTask(0, 3, 60) = 4
            bestCut() = 4
            remove(4) = 1
            addGroup(0, 1) = 5
            addTask(5, 0, 1) = 6
            addTask(5, 3, 1) = 7
            bestCut() = 3
            setDuration(3, 0) = 2
            bestCut() = 1
            remove(1) = 1
            remove(2) = 1
            whole(2) = 1
            bestCut() = -1 // 6 and 7 hold one another
            """);
        edge("the lowest number of those: a reserve alone cannot be cut", """
            addTask(0, 0, 9) = 1
            addTask(0, 1, 1) = 2
            borrow(2, 8) = 8
            remove(1) = 1
            bestCut() = 2
            setDuration(2, 0) = 8
            bestCut() = -1
            addTask(0, 1, 1) = 3
            bestCut() = 3
            """);
    }

    private static void loans() throws Exception {
        edge("what the slack of a node would be if a task (perhaps the same) borrowed all of its slack", """
            addTask(0, 0, 60) = 1
            addTask(0, 0, 60) = 2
            addGroup(0, 1) = 3
            addTask(3, 0, 4) = 4
            addTask(3, 1, 7) = 5
            addTask(0, 1, 3) = 6
            node(4, 9) = 113
            slackIf(4, 4) = 0 // more than one call could borrow
            slackIf(5, 4) = 110
            slackIf(3, 4) = 0
            slackIf(6, 4) = 0
            slackIf(1, 4) = 0
            slackIf(0, 4) = 0
            slackIf(4, 6) = 3
            slackIf(5, 5) = 0
            slackIf(4, 5) = 113 // its row gains what its group loses
            slackIf(6, 6) = 0
            slackIf(4, 1) = 113 // 1 has none
            slackIf(1, 1) = 0
            slackIf(0, 1) = 0
            node(4, 5) = 0
            borrow(4, 99) = 99
            slackIf(4, 4) = 0
            slackIf(6, 4) = 0
            node(4, 5) = 99
            node(4, 9) = 14
            """);
        edge("Tells why a node cannot be moved to a group: the first of these that applies", """
            addGroup(0, 0) = 1
            addGroup(1, 1) = 2
            addTask(2, 2, 5) = 3
            addTask(0, 0, 5) = 4
            reason(0, 0) = 1 // and it is the node itself
            reason(0, 1) = 1 // and it is below it
            reason(0, 3) = 1 // and it is no group
            reason(3, 3) = 2 // and it is the node itself
            reason(1, 3) = 2 // and it is below it
            reason(1, 4) = 2
            reason(4, 3) = 2
            reason(1, 1) = 3
            reason(1, 2) = 3
            reason(2, 2) = 3
            reason(2, 1) = 0
            reason(2, 0) = 0
            reason(1, 0) = 0
            reason(4, 0) = 0
            reason(4, 2) = 0
            reason(3, 2) = 0
            """);
    }

    public static void main(String[] args) throws Exception {
        counts();
        root();
        rows();
        lengths();
        starts();
        slack();
        criticality();
        reserves();
        moves();
        refusals();
        values();
        running();
        whatIf();
        loans();
        Script.finish();
    }
}
