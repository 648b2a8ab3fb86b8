/** One or more runs for each promise, each on a new object, with answers worked out by hand. */
public final class SlackRowsPromises {
    private static void run(int promise, String script) throws Exception {
        Script.run("promise " + promise, script);
    }

    /** The digest after a run is compared with one put together from the values that the object tells. */
    private static void digestOf(String what, int states, String script) throws Exception {
        Script.same("promise 25: " + what, Script.run(what, script).digest(), Snapshot.digest(script, states));
    }

    private static void promise1() throws Exception {
        run(1, """
            whole(0) = 1
            whole(1) = 0
            whole(2) = 0
            whole(3) = 99
            whole(4) = 0
            whole(5) = 0
            whole(6) = 0
            whole(9) = 0
            whole(10) = 1
            whole(11) = 0
            node(0, 0) = 0
            undo() = state
            clearCommands() = 0
            """);
    }

    private static void promise2() throws Exception {
        run(2, """
            addGroup(0, 3) = 1
            addGroup(1, 0) = 2
            node(2, 0) = 0
            node(2, 1) = 1
            node(2, 2) = 0
            addGroup(0, 3) = 3
            node(3, 3) = 1 // at the end of the row
            whole(0) = 4
            addTask(0, 0, 1) = 4
            addGroup(5, 9) = no node
            addGroup(-1, 0) = no node
            addGroup(-2147483648, 0) = no node
            addGroup(4, 4) = range
            addGroup(4, -1) = range
            addGroup(4, 3) = state
            whole(10) = 5
            undo() = 3
            undo() = 2
            whole(0) = 3
            """);
        StringBuilder full = new StringBuilder();
        for (int n = 1; n < 24; n++) {
            full.append("addGroup(0, 1) = " + n + "\n");
        }
        run(2, full + """
            whole(0) = 24
            addGroup(0, 1) = state
            addGroup(24, 1) = no node
            addGroup(0, 4) = range
            remove(23) = 1
            addGroup(0, 1) = 24 // numbers are not used again
            """);
    }

    private static void promise3() throws Exception {
        run(3, """
            addTask(0, 0, 60) = 1
            addTask(0, 0, 0) = 2
            node(1, 0) = 1
            node(1, 4) = 60
            node(1, 5) = 0
            node(2, 4) = 0
            node(2, 3) = 1
            addTask(3, 0, 0) = no node
            addTask(3, 4, 61) = no node
            addTask(0, 4, 0) = range
            addTask(0, -1, 0) = range
            addTask(0, 0, 61) = range
            addTask(0, 0, -1) = range
            addTask(1, 0, 61) = range
            addTask(1, 0, 5) = state
            whole(0) = 3
            undo() = 1
            undo() = 0
            undo() = state
            addTask(0, 0, 7) = 1 // undo() gives numbers back
            """);
        StringBuilder full = new StringBuilder();
        for (int n = 1; n < 24; n++) {
            full.append("addTask(0, 0, 1) = " + n + "\n");
        }
        run(3, full + """
            addTask(0, 0, 1) = state
            addTask(0, 0, 61) = range
            whole(2) = 23
            """);
    }

    private static void promise4() throws Exception {
        run(4, """
            addGroup(0, 0) = 1
            addTask(0, 0, 5) = 2
            addTask(1, 2, 4) = 3
            addGroup(1, 2) = 4
            addTask(4, 0, 6) = 5
            whole(2) = 15
            move(1, 0, 0) = 1 // to the end of its own row
            node(2, 3) = 0
            node(2, 7) = 0
            node(1, 7) = 5
            node(5, 7) = 9
            move(3, 1, 2) = 1
            child(1, 2, 0) = 4
            child(1, 2, 1) = 3
            move(4, 0, 1) = 0
            node(5, 12) = 2
            node(5, 7) = 0
            node(3, 3) = 0
            whole(2) = 9
            move(1, 4, 0) = 1 // with all below it, behind 5
            node(3, 12) = 3
            node(3, 7) = 6
            whole(2) = 10
            whole(0) = 6
            move(4, 1, 0) = state
            move(4, 4, 0) = state
            move(0, 1, 0) = state
            move(1, 2, 0) = state
            move(0, 2, 4) = range
            move(4, 4, -1) = range
            move(6, 4, 9) = no node
            move(4, 6, 9) = no node
            move(-1, 0, 0) = no node
            move(2, -1, 0) = no node
            undo() = 3
            node(3, 12) = 2
            node(1, 1) = 0
            """);
    }

    private static void promise5() throws Exception {
        run(5, """
            addTask(0, 0, 3) = 1
            addGroup(0, 0) = 2
            addTask(2, 0, 4) = 3
            addGroup(2, 1) = 4
            addTask(4, 3, 9) = 5
            addTask(0, 0, 2) = 6
            move(1, 4, 3) = 1 // a lower number below a higher one
            remove(2) = 5
            whole(0) = 2
            whole(10) = 7
            node(6, 3) = 0
            node(6, 7) = 0
            node(1, 0) = no node
            node(3, 0) = no node
            node(5, 0) = no node
            remove(2) = no node
            remove(7) = no node
            remove(-1) = no node
            remove(0) = state
            addTask(0, 0, 1) = 7
            undo() = 3
            undo() = 2
            whole(0) = 7
            node(1, 3) = 1
            node(1, 7) = 9
            remove(6) = 1
            """);
    }

    private static void promise6() throws Exception {
        run(6, """
            addTask(0, 0, 10) = 1
            addTask(0, 1, 30) = 2
            borrow(1, 8) = 8
            setDuration(1, 13) = 30 // eats 3 of the reserve
            node(1, 5) = 5
            node(1, 6) = 18
            setDuration(1, 18) = 30
            node(1, 5) = 0
            setDuration(1, 60) = 60
            setDuration(1, 0) = 30
            borrow(1, 4) = 4
            setDuration(1, 20) = 30 // eats all of it
            node(1, 5) = 0
            node(1, 6) = 20
            borrow(1, 6) = 6
            setDuration(1, 5) = 30 // the reserve stays
            node(1, 5) = 6
            node(1, 4) = 5
            setDuration(1, 5) = 30
            node(1, 5) = 6
            undo() = 3
            undo() = 2
            node(1, 4) = 20
            setDuration(3, 61) = no node
            setDuration(-1, 0) = no node
            setDuration(0, 61) = range
            setDuration(1, -1) = range
            setDuration(1, 61) = range
            setDuration(0, 60) = state
            """);
    }

    private static void promise7() throws Exception {
        run(7, """
            addTask(0, 0, 60) = 1
            addTask(0, 0, 60) = 2
            addTask(0, 1, 5) = 3
            borrow(3, 100) = range
            borrow(3, 99) = 99
            node(3, 9) = 16
            borrow(3, 17) = state
            borrow(3, 16) = 115
            node(3, 9) = 0
            node(3, 11) = 1
            whole(2) = 120
            borrow(3, 1) = state
            borrow(3, 0) = range
            borrow(0, 0) = range
            borrow(0, 1) = state
            borrow(4, 0) = no node
            borrow(-1, 1) = no node
            undo() = 3
            node(3, 5) = 99
            """);
        run(7, """
            addGroup(0, 0) = 1
            addTask(1, 0, 5) = 2
            addTask(1, 1, 8) = 3
            addTask(0, 1, 12) = 4
            borrow(2, 7) = 7 // 3 of its row and 4 of its group
            whole(2) = 12
            node(3, 9) = 4 // so its row has all that can be lost
            borrow(3, 5) = state
            """);
    }

    private static void promise8() throws Exception {
        run(8, """
            addTask(0, 0, 60) = 1
            addTask(0, 1, 5) = 2
            borrow(2, 20) = 20
            giveBack(2, 21) = state
            giveBack(2, 5) = 15
            node(2, 6) = 20
            giveBack(2, 15) = 0
            node(2, 9) = 55
            giveBack(2, 1) = state
            giveBack(2, 0) = range
            giveBack(0, 100) = range
            giveBack(0, 99) = state
            giveBack(3, 0) = no node
            giveBack(-1, 1) = no node
            undo() = 3
            node(2, 5) = 15
            """);
    }

    private static void promise9() throws Exception {
        run(9, """
            setDeadline(0) = 0
            addTask(0, 0, 60) = 1
            whole(4) = 60
            setDeadline(59) = 1
            setDeadline(60) = 0
            setDeadline(999) = 0
            setDeadline(1000) = range
            setDeadline(-1) = range
            whole(3) = 999
            undo() = 3
            whole(3) = 60
            undo() = 2
            whole(3) = 59
            """);
    }

    private static void promise10() throws Exception {
        run(10, """
            addTask(0, 2, 10) = 1
            addGroup(0, 2) = 2
            addTask(2, 1, 5) = 3
            addTask(2, 1, 1) = 4
            addTask(2, 3, 8) = 5
            addTask(0, 3, 20) = 6
            borrow(4, 1) = 1
            node(4, 0) = 1
            node(4, 1) = 2
            node(4, 2) = 1
            node(4, 3) = 1
            node(4, 4) = 1
            node(4, 5) = 1
            node(4, 6) = 2
            node(4, 7) = 15
            node(4, 8) = 18
            node(4, 9) = 3
            node(4, 10) = 1
            node(4, 11) = 0
            node(4, 12) = 2
            node(2, 0) = 0
            node(2, 4) = -1
            node(2, 5) = -1
            node(2, 6) = 8
            node(2, 7) = 10
            node(2, 8) = 12
            node(2, 9) = 2
            node(2, 10) = 2
            node(2, 11) = 0
            node(5, 10) = 0
            node(5, 9) = 2
            node(6, 11) = 1
            node(0, 1) = -1
            node(0, 2) = -1
            node(0, 3) = -1
            node(0, 6) = 20
            node(0, 8) = 0
            node(0, 10) = 0
            node(0, 11) = 1
            node(0, 12) = 0
            node(7, 13) = no node
            node(-1, 0) = no node
            node(0, 13) = range
            node(0, -1) = range
            """);
    }

    private static void promise11() throws Exception {
        run(11, """
            addGroup(0, 1) = 1
            addTask(1, 0, 5) = 2
            addTask(1, 0, 2) = 3
            addTask(1, 2, 3) = 4
            row(0, 1, 0) = 1
            row(1, 0, 0) = 2
            row(1, 0, 1) = 7
            row(1, 0, 2) = 0
            row(1, 0, 3) = 1
            row(1, 2, 2) = 4
            row(1, 2, 3) = 0
            row(1, 3, 0) = 0
            row(1, 3, 2) = 7
            addTask(0, 3, 8) = 5
            row(1, 0, 2) = 0 // no slack of its own, but its group has
            row(1, 0, 3) = 0
            addGroup(0, 3) = 6
            row(6, 0, 2) = 0 // no slack, but no children
            row(6, 0, 3) = 0
            addTask(6, 0, 0) = 7
            row(6, 0, 3) = 1
            row(8, 4, 4) = no node
            row(-1, 0, 0) = no node
            row(2, 4, 0) = range
            row(2, -1, 0) = range
            row(2, 0, 4) = range
            row(2, 0, -1) = range
            row(2, 3, 3) = state
            """);
    }

    private static void promise12() throws Exception {
        run(12, """
            addTask(0, 1, 1) = 1
            addGroup(0, 1) = 2
            addTask(0, 0, 1) = 3
            child(0, 1, 0) = 1
            child(0, 1, 1) = 2
            child(0, 1, 2) = -1
            child(0, 1, 2147483647) = -1
            child(0, 0, 0) = 3
            child(0, 3, 0) = -1
            child(2, 0, 0) = -1
            move(1, 0, 1) = 1
            child(0, 1, 0) = 2
            child(0, 1, 1) = 1
            child(4, 4, -1) = no node
            child(1, 4, 0) = range
            child(1, -1, 0) = range
            child(1, 0, -1) = range
            child(1, 0, 0) = state
            """);
    }

    private static void promise13() throws Exception {
        run(13, """
            addTask(0, 0, 5) = 1
            addTask(0, 0, 0) = 2
            addTask(0, 0, 5) = 3
            addTask(0, 1, 10) = 4
            addTask(0, 2, 9) = 5
            move(1, 0, 0) = 2
            critical(0) = 2 // 2 and 3 and 4 start at 0, 1 at 5
            critical(1) = 3
            critical(2) = 4
            critical(3) = 1
            critical(4) = -1
            critical(24) = -1
            critical(2147483647) = -1
            critical(-1) = range
            critical(-2147483648) = range
            """);
    }

    private static void promise14() throws Exception {
        run(14, """
            addTask(0, 0, 5) = 1
            addTask(0, 0, 0) = 2
            addTask(0, 0, 3) = 3
            addTask(0, 1, 4) = 4
            addGroup(0, 2) = 5 // groups do not count
            addTask(5, 0, 1) = 6
            running(0) = 3
            running(1) = 2
            running(3) = 2
            running(4) = 1
            running(5) = 1
            running(7) = 1
            running(8) = 0
            borrow(4, 2) = 2 // a reserve runs, too
            running(5) = 2
            running(6) = 1
            running(2147483647) = 0
            running(-1) = range
            """);
    }

    private static void promise15() throws Exception {
        run(15, """
            addTask(0, 0, 5) = 1
            addTask(0, 0, 6) = 2
            addTask(0, 1, 7) = 3
            addTask(0, 2, 4) = 4
            addGroup(0, 1) = 5
            addTask(5, 3, 4) = 6
            borrow(4, 2) = 2
            setDeadline(10) = 1
            whole(0) = 7
            whole(1) = 5
            whole(2) = 11
            whole(3) = 10
            whole(4) = 1
            whole(5) = 4 // all but 4
            whole(6) = 3
            whole(7) = 26
            whole(8) = 2
            whole(9) = 3
            whole(10) = 7
            whole(11) = 0
            type(32) = 1
            whole(11) = 1
            remove(5) = 2
            whole(0) = 5
            whole(1) = 4
            whole(10) = 7
            whole(12) = range
            whole(-1) = range
            """);
        StringBuilder full = new StringBuilder();
        for (int n = 1; n < 24; n++) {
            full.append("addTask(0, 0, 2) = " + n + "\n");
        }
        run(15, full + """
            whole(1) = 23
            whole(5) = 23
            whole(6) = 1
            whole(7) = 46
            whole(8) = 0
            whole(9) = 1
            row(0, 0, 0) = 23
            child(0, 0, 23) = -1
            critical(22) = 23
            critical(23) = -1
            running(0) = 1
            bestCut() = 1
            move(1, 0, 0) = 22
            critical(22) = 1
            bestCut() = 1
            addTask(0, 1, 50) = state
            remove(23) = 1 // and what is gone counts no more
            addTask(0, 1, 50) = 24
            borrow(2, 3) = 3
            remove(2) = 1
            remove(24) = 1
            whole(1) = 21
            whole(5) = 21
            whole(6) = 1
            whole(7) = 42
            whole(8) = 0
            whole(9) = 1
            whole(10) = 25
            row(0, 0, 0) = 21
            row(0, 1, 0) = 0
            child(0, 1, 0) = -1
            child(0, 0, 21) = -1
            critical(20) = 1
            critical(21) = -1
            running(41) = 1
            running(42) = 0
            bestCut() = 1
            """);
    }

    private static void promise16() throws Exception {
        run(16, """
            addTask(0, 0, 10) = 1
            addTask(0, 1, 14) = 2
            borrow(1, 3) = 3
            endWith(1, 10) = 14
            endWith(1, 13) = 14
            endWith(1, 14) = 14
            endWith(1, 15) = 15
            endWith(1, 60) = 60
            endWith(2, 0) = 13 // the reserve of 1 stays
            endWith(1, 0) = 14
            giveBack(1, 3) = 0
            setDuration(2, 0) = 10
            borrow(2, 10) = 10
            setDuration(1, 0) = 10
            endWith(2, 0) = 10
            undo() = 3
            undo() = 2
            undo() = 1
            undo() = 0
            addGroup(0, 0) = 3
            addTask(3, 2, 5) = 4
            addTask(3, 3, 4) = 5
            endWith(4, 0) = 17
            endWith(4, 9) = 22
            endWith(5, 6) = 19
            node(1, 5) = 3
            whole(2) = 18
            endWith(6, 61) = no node
            endWith(-1, 0) = no node
            endWith(0, 61) = range
            endWith(0, -1) = range
            endWith(0, 60) = state
            undo() = 2
            undo() = 1
            """);
        run(16, """
            addTask(0, 0, 20) = 1
            addTask(0, 1, 5) = 2
            borrow(2, 15) = 15
            setDuration(1, 1) = 20
            endWith(2, 2) = 17
            endWith(2, 9) = 20
            endWith(2, 21) = 21
            endWith(2, 0) = 15
            node(2, 5) = 15
            """);
    }

    private static void promise17() throws Exception {
        run(17, """
            addTask(0, 0, 10) = 1
            addTask(0, 1, 14) = 2
            growsTo(1) = 14
            growsTo(2) = 14
            borrow(1, 3) = 3
            growsTo(1) = 14 // the reserve is eaten first
            addTask(0, 1, 60) = 3
            growsTo(1) = 60
            growsTo(3) = 60
            addGroup(0, 0) = 4
            addTask(4, 0, 20) = 5
            addTask(4, 1, 22) = 6
            growsTo(5) = 60
            addTask(4, 0, 19) = 7
            growsTo(7) = 41 // 22 of its group, none of its row
            growsTo(6) = 60
            node(1, 4) = 10
            growsTo(8) = no node
            growsTo(-1) = no node
            growsTo(0) = state
            """);
    }

    private static void promise18() throws Exception {
        run(18, """
            bestCut() = -1
            addTask(0, 0, 0) = 1
            bestCut() = -1
            addTask(0, 0, 5) = 2
            addTask(0, 0, 6) = 3
            bestCut() = 2
            move(2, 0, 0) = 2
            bestCut() = 2 // the lowest number, not the first start
            addTask(0, 1, 10) = 4
            bestCut() = 2
            setDuration(4, 11) = 11
            bestCut() = -1 // two critical rows
            addTask(0, 1, 1) = 5
            bestCut() = 4
            setDuration(4, 0) = 11
            undo() = 3
            borrow(2, 1) = 1
            bestCut() = -1
            """);
        run(18, """
            addTask(0, 0, 9) = 1
            addTask(0, 1, 1) = 2
            borrow(2, 8) = 8
            setDuration(2, 0) = 9
            setDuration(1, 5) = 8
            node(2, 11) = 1
            bestCut() = -1 // 2 has a reserve alone
            addTask(0, 1, 1) = 3
            bestCut() = 3
            """);
        run(18, """
            addGroup(0, 0) = 1
            addTask(1, 0, 5) = 2
            addTask(1, 1, 5) = 3
            bestCut() = -1
            addTask(0, 0, 1) = 4
            bestCut() = 4
            """);
    }

    private static void promise19() throws Exception {
        run(19, """
            addGroup(0, 0) = 1
            addTask(1, 0, 5) = 2
            addTask(1, 0, 2) = 3
            addTask(1, 1, 9) = 4
            addTask(0, 0, 1) = 5
            addTask(0, 1, 60) = 6
            addTask(0, 1, 60) = 7
            addTask(0, 1, 40) = 8
            node(2, 9) = 152
            slackIf(2, 2) = 0
            slackIf(3, 2) = 0 // in the same row
            slackIf(1, 2) = 0
            slackIf(5, 2) = 0
            slackIf(4, 2) = 150 // its row has what its group has lost
            slackIf(2, 5) = 2
            slackIf(2, 6) = 152
            slackIf(0, 2) = 0
            node(2, 9) = 152
            node(2, 5) = 0
            slackIf(9, 0) = no node
            slackIf(0, 9) = no node
            slackIf(-1, -1) = no node
            slackIf(2, 1) = state
            slackIf(0, 0) = state
            """);
    }

    private static void promise20() throws Exception {
        run(20, """
            addGroup(0, 0) = 1
            addGroup(1, 0) = 2
            addTask(2, 0, 5) = 3
            reason(0, 3) = 1
            reason(0, 0) = 1
            reason(1, 3) = 2 // below it, but no group
            reason(3, 3) = 2
            reason(1, 1) = 3
            reason(1, 2) = 3
            reason(2, 1) = 0
            reason(2, 2) = 3
            reason(3, 0) = 0
            reason(4, 0) = no node
            reason(0, 4) = no node
            reason(-1, 0) = no node
            """);
    }

    private static void promise21() throws Exception {
        run(21, """
            type(0) = 1
            type(127) = 2
            type(128) = range
            type(-1) = range
            whole(11) = 2
            undo() = state // typing saves no state
            """);
        StringBuilder full = new StringBuilder();
        for (int i = 1; i <= 150; i++) {
            full.append("type(32) = " + i + "\n");
        }
        run(21, full + """
            type(32) = state
            type(128) = range
            whole(11) = 150
            runCommands() = 0
            clearCommands() = 150
            type(32) = 1
            """);
    }

    private static void promise22() throws Exception {
        run(22, """
            write "drop"
            clearCommands() = 4
            clearCommands() = 0
            whole(11) = 0
            undo() = state
            write "until 5;"
            runCommands() = 1
            """);
    }

    private static void fault(String text, int fault) throws Exception {
        run(23, "write \"" + text + "\"\nrunCommands() = " + (-10 - fault) + "\nwhole(0) = 1\nundo() = state\n"
            + "clearCommands() = " + text.length() + "\n");
    }

    private static void promise23() throws Exception {
        run(23, """
            runCommands() = 0
            write "   "
            runCommands() = 0
            undo() = 1
            undo() = 0
            """);
        run(23, """
            write "  task 0  000 007 ;group 0 1;task 2 3 30;borrow 1 9;back 1 2;last 1 9;until 5;move 2 0 0; "
            runCommands() = 8
            node(1, 4) = 9
            node(1, 5) = 5
            whole(2) = 44
            whole(4) = 39
            node(2, 3) = 1
            whole(11) = 90
            undo() = 0
            whole(0) = 1
            whole(3) = 99
            whole(11) = 90
            """);
        run(23, """
            write "task 0 0 5;task 0 0 61;task 0 0 6;"
            runCommands() = 1
            whole(0) = 2
            runCommands() = 1
            undo() = 1
            whole(0) = 2
            clearCommands() = 34
            write "drop 1;drop 0;"
            runCommands() = 1
            clearCommands() = 14
            write "borrow 0 1;"
            runCommands() = 0
            undo() = 2
            """);
        run(23, """
            write "drop 999;"
            runCommands() = 0
            clearCommands() = 9
            write "until 999;until 0;"
            runCommands() = 2
            whole(3) = 0
            """);
        fault("task", 4);
        fault("task ", 5);
        fault("tas", 0);
        fault(" tas ", 1);
        fault("tasks 0 0 5;", 0);
        fault("tasK 0 0 5;", 0);
        fault("Task 0 0 5;", 0);
        fault("task0 0 5;", 4);
        fault("task;", 4);
        fault("tas;", 0);
        fault("task a", 5);
        fault("task 0 0 5", 10);
        fault("task 0 0 5 ", 11);
        fault("task 0 0 5 6;", 11);
        fault("task 0 0;", 8);
        fault("task 0 0 ;", 9);
        fault("task 0 0 5x;", 10);
        fault("task 0 0 0005;", 12);
        fault("drop 1234;", 8);
        fault("drop 0001;", 8);
        fault("drop 1,", 6);
        fault("drop 1;;", 7);
        fault("drop 1;  ;", 9);
        fault("drop 1;x", 7);
        fault("drop 1; 1", 8);
        fault("drop -1;", 5);
        fault(";", 0);
        fault("  7", 2);
        fault("drop\u00001;", 4);
        fault("task 0 0 5;drop", 15);
        for (String word : new String[] {"group", "task", "last", "borrow", "back", "move", "drop", "until"}) {
            fault(word, word.length());
            fault(word + "s 0", 0);
            fault("x" + word.substring(1) + " 0", 0);
            fault(word.substring(0, word.length() - 1) + "x 0", 0);
            fault(word.substring(1) + " 0", 0);
        }
        fault("{", 0);
        fault("`", 0);
        fault("drop /", 5);
        fault("drop :", 5);
        run(23, """
            write "group 0 0;group 0 0;group 0 0;group 0 0;group 0 0;group 0 0;group 0 0;group 0 0;"
            runCommands() = 8
            runCommands() = 8
            runCommands() = 7
            whole(0) = 24
            undo() = 2
            whole(0) = 17
            undo() = 1
            whole(0) = 9
            """);
        StringBuilder many = new StringBuilder("write \"");
        for (int i = 0; i < 21; i++) {
            many.append("drop 1;");
        }
        run(23, many + "   \"\nwhole(11) = 150\nrunCommands() = 0\naddTask(0, 0, 1) = 1\nrunCommands() = 1\n");
        run(23, many.toString().replace("drop 1", "last 1 2").substring(0, 7 + 16 * 9) + "\"\n"
            + "addTask(0, 0, 1) = 1\nrunCommands() = 16\nwhole(2) = 2\n");
    }

    private static void promise24() throws Exception {
        run(24, """
            undo() = state
            setDeadline(1) = 0
            setDeadline(2) = 0
            setDeadline(3) = 0
            setDeadline(4) = 0
            setDeadline(4) = 0 // it changes nothing, and saves a state
            setDeadline(1000) = range
            undo() = 3
            whole(3) = 4
            undo() = 2
            whole(3) = 3
            setDeadline(7) = 0
            undo() = 2
            whole(3) = 3
            undo() = 1
            undo() = 0
            whole(3) = 1
            undo() = state
            whole(3) = 1
            """);
        run(24, """
            addTask(0, 0, 5) = 1
            addGroup(0, 1) = 2
            move(1, 2, 3) = 0
            remove(2) = 2
            undo() = 3
            node(1, 1) = 2
            node(1, 2) = 3
            undo() = 2
            node(1, 1) = 0
            whole(10) = 3
            undo() = 1
            whole(10) = 2
            addGroup(0, 1) = 2
            type(65) = 1
            undo() = 1
            whole(11) = 1 // the command text is not restored
            """);
    }

    private static void promise25() throws Exception {
        StringBuilder full = new StringBuilder();
        for (int n = 1; n < 24; n++) {
            full.append(n % 3 == 1 ? "addGroup(" + Math.max(0, n - 3) + ", " : "addTask(0, ");
            full.append(n % 4 + (n % 3 == 1 ? ")" : ", " + n % 5 + ")") + "\n");
        }
        digestOf("a full tree", 4, full.toString());
        digestOf("a new object", 0, "");
        String three = """
            addTask(0, 1, 7)
            addGroup(0, 2)
            addTask(2, 0, 3)
            """;
        digestOf("three nodes", 3, three);
        String stacked = three + """
            borrow(3, 2)
            move(1, 2, 0)
            setDeadline(4)
            type(32)
            """;
        digestOf("a full stack", 4, stacked);
        String leftOut = stacked + """
            addTask(2, 3, 12)
            remove(3)
            """;
        digestOf("a number left out", 4, leftOut);
        digestOf("after undo", 3, leftOut + "undo()");
    }

    private static void exampleOfReadme() throws Exception {
        Script.run("the example of README.md", """
            addTask(0, 0, 10) = 1
            addGroup(0, 0) = 2
            addTask(2, 0, 5) = 3
            addTask(2, 1, 8) = 4
            whole(2) = 18
            node(3, 9) = 3
            borrow(3, 2) = 2
            growsTo(3) = 8
            endWith(4, 12) = 22
            critical(1) = 4
            undo() = 3
            node(3, 5) = 0
            write "last 4 9; until 15;"
            runCommands() = 2
            whole(4) = 4
            """);
    }

    public static void main(String[] args) throws Exception {
        promise1();
        promise2();
        promise3();
        promise4();
        promise5();
        promise6();
        promise7();
        promise8();
        promise9();
        promise10();
        promise11();
        promise12();
        promise13();
        promise14();
        promise15();
        promise16();
        promise17();
        promise18();
        promise19();
        promise20();
        promise21();
        promise22();
        promise23();
        promise24();
        promise25();
        exampleOfReadme();
        Script.finish();
    }
}
