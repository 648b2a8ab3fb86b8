/**
 * Tasks in a tree of groups: rows run side by side, the children of a row one
 * after the other. Told are lengths, starts, slack, what is critical, and what
 * would be if; changes can be undone, and can be written as texts of commands.
 */
public final class SlackRows {

    /** Returned where there is no such value. */
    public static final int NONE = -1;

    private static final int ROOT = 0;
    private static final int ROWS = 4;
    private static final int MOST_NODES = 24;
    private static final int MOST_DURATION = 60;
    private static final int LEAST_AMOUNT = 1;
    private static final int MOST_AMOUNT = 99;
    private static final int FIRST_DEADLINE = 99;
    private static final int MOST_DEADLINE = 999;
    private static final int MOST_SAVED = 4;
    private static final int MOST_BYTES = 150;
    private static final int MOST_BYTE = 127;
    private static final int MOST_NUMBERS = 3;
    private static final int MOST_DIGITS = 3;
    private static final int FAULT_BASE = -10;
    private static final int NODE_VALUES = 13;
    private static final int ROW_VALUES = 4;
    private static final int WHOLE_VALUES = 12;
    private static final long DIGEST_START = 43828L;
    private static final Command[] COMMANDS = Command.values();

    private final CommandText text = new CommandText();
    /** The saved states, the oldest first; those behind savedCount are free to be written over. */
    private final Tree[] saved = new Tree[MOST_SAVED];
    private int savedCount = 0;
    private Tree tree = new Tree();

    public SlackRows() {
        for (int i = 0; i < saved.length; i++) {
            saved[i] = new Tree();
        }
    }

    // ---- the tree

    public int addGroup(int group, int row)
            throws IndexOutOfBoundsException, IllegalArgumentException, IllegalStateException {
        return change(Command.GROUP, group, row, 0);
    }

    public int addTask(int group, int row, int duration)
            throws IndexOutOfBoundsException, IllegalArgumentException, IllegalStateException {
        return change(Command.TASK, group, row, duration);
    }

    public int move(int node, int group, int row)
            throws IndexOutOfBoundsException, IllegalArgumentException, IllegalStateException {
        return change(Command.MOVE, node, group, row);
    }

    public int remove(int node) throws IndexOutOfBoundsException, IllegalStateException {
        return change(Command.DROP, node, 0, 0);
    }

    // ---- durations, reserves, the deadline

    public int setDuration(int task, int duration)
            throws IndexOutOfBoundsException, IllegalArgumentException, IllegalStateException {
        return change(Command.LAST, task, duration, 0);
    }

    public int borrow(int task, int amount)
            throws IndexOutOfBoundsException, IllegalArgumentException, IllegalStateException {
        return change(Command.BORROW, task, amount, 0);
    }

    public int giveBack(int task, int amount)
            throws IndexOutOfBoundsException, IllegalArgumentException, IllegalStateException {
        return change(Command.BACK, task, amount, 0);
    }

    public int setDeadline(int deadline) throws IllegalArgumentException {
        return change(Command.UNTIL, deadline, 0, 0);
    }

    // ---- values

    public int node(int node, int what) throws IndexOutOfBoundsException, IllegalArgumentException {
        Node found = existing(node);
        requireRange(what, 0, NODE_VALUES - 1);
        return found.value(what);
    }

    public int row(int group, int row, int what)
            throws IndexOutOfBoundsException, IllegalArgumentException, IllegalStateException {
        Node found = existing(group);
        requireRange(row, 0, ROWS - 1);
        requireRange(what, 0, ROW_VALUES - 1);
        requireGroup(found);
        return tree.rowValue(found, row, what);
    }

    public int child(int group, int row, int place)
            throws IndexOutOfBoundsException, IllegalArgumentException, IllegalStateException {
        Node found = existing(group);
        requireRange(row, 0, ROWS - 1);
        requireNotNegative(place);
        requireGroup(found);
        return tree.childNumber(found, row, place);
    }

    public int critical(int index) throws IllegalArgumentException {
        requireNotNegative(index);
        return tree.criticalNumber(index);
    }

    public int running(int time) throws IllegalArgumentException {
        requireNotNegative(time);
        return tree.countRunning(time);
    }

    public int whole(int what) throws IllegalArgumentException {
        requireRange(what, 0, WHOLE_VALUES - 1);
        return wholeValue(what);
    }

    // ---- what if, which changes nothing

    public int endWith(int task, int duration)
            throws IndexOutOfBoundsException, IllegalArgumentException, IllegalStateException {
        Node found = existing(task);
        requireRange(duration, 0, MOST_DURATION);
        requireTask(found);
        return found.endIfLength(found.lengthWith(duration));
    }

    public int growsTo(int task) throws IndexOutOfBoundsException, IllegalStateException {
        Node found = existing(task);
        requireTask(found);
        return tree.greatestDuration(found);
    }

    public int bestCut() {
        return tree.cutNumber();
    }

    public int slackIf(int node, int task) throws IndexOutOfBoundsException, IllegalStateException {
        Node found = existing(node);
        Node borrower = existing(task);
        requireTask(borrower);
        return tree.slackIfBorrowed(found, borrower);
    }

    public int reason(int node, int group) throws IndexOutOfBoundsException {
        return existing(node).whyNotTo(existing(group));
    }

    // ---- command text, undo and checksum

    public int type(int value) throws IllegalArgumentException, IllegalStateException {
        requireRange(value, 0, MOST_BYTE);
        if (!text.append(value)) {
            throw new IllegalStateException("the command text is full");
        }
        return text.length;
    }

    public int clearCommands() {
        int had = text.length;
        text.length = 0;
        return had;
    }

    public int runCommands() {
        int fault = text.findFault();
        if (fault != NONE) {
            return FAULT_BASE - fault;
        }
        save();
        return runFaultless();
    }

    public int undo() throws IllegalStateException {
        int top = savedCount - 1;
        if (top < 0 || top >= saved.length) {
            throw new IllegalStateException("the undo stack is empty");
        }
        Tree restored = saved[top];
        saved[top] = tree;
        tree = restored;
        savedCount = top;
        tree.plan();
        return savedCount;
    }

    public long digest() {
        long h = mix(DIGEST_START, savedCount);
        for (int what = 0; what < WHOLE_VALUES; what++) {
            h = mix(h, wholeValue(what));
        }
        h = tree.mixNodes(h);
        h = tree.mixCritical(h);
        return mix(h, tree.cutNumber());
    }

    // ---- private

    private static long mix(long h, int value) {
        return 31L * h + value;
    }

    private static boolean isBetween(int value, int least, int most) {
        return value >= least && value <= most;
    }

    private Node existing(int number) {
        Node found = tree.find(number);
        if (found == null) {
            throw new IndexOutOfBoundsException("there is no such node");
        }
        return found;
    }

    private static void requireRange(int value, int least, int most) {
        if (!isBetween(value, least, most)) {
            throw new IllegalArgumentException("a number is out of range");
        }
    }

    private static void requireNotNegative(int value) {
        if (value < 0) {
            throw new IllegalArgumentException("a number is negative");
        }
    }

    private static void requireGroup(Node node) {
        if (node.isTask) {
            throw new IllegalStateException("the node is no group");
        }
    }

    private static void requireTask(Node node) {
        if (!node.isTask) {
            throw new IllegalStateException("the node is no task");
        }
    }

    private static void requireAllowed(Refusal refusal) {
        if (refusal == Refusal.NO_NODE) {
            throw new IndexOutOfBoundsException("there is no such node");
        }
        if (refusal == Refusal.OUT_OF_RANGE) {
            throw new IllegalArgumentException("a number is out of range");
        }
        if (refusal == Refusal.IMPOSSIBLE) {
            throw new IllegalStateException("the tree does not allow this");
        }
    }

    private int change(Command command, int first, int second, int third) {
        requireAllowed(tree.refusal(command, first, second, third));
        save();
        return tree.carryOut(command, first, second, third);
    }

    /** Puts a copy of the state on the undo stack; a full stack gives up its oldest state for it. */
    private void save() {
        if (savedCount >= saved.length) {
            Tree oldest = saved[0];
            for (int i = 1; i < saved.length; i++) {
                saved[i - 1] = saved[i];
            }
            saved[saved.length - 1] = oldest;
        }
        int free = Math.min(savedCount, saved.length - 1);
        saved[free].copyFrom(tree);
        savedCount = free + 1;
    }

    /** Carries out the commands of a text without fault, up to the first that is refused. */
    private int runFaultless() {
        text.rewind();
        for (int done = 0; done < MOST_BYTES; done++) {
            Command command = text.readCommand();
            if (command == null) {
                return done;
            }
            int first = text.numbers[0];
            int second = text.numbers[1];
            int third = text.numbers[2];
            if (tree.refusal(command, first, second, third) != Refusal.NOT) {
                return done;
            }
            tree.carryOut(command, first, second, third);
        }
        return MOST_BYTES;
    }

    private int wholeValue(int what) {
        return what == WHOLE_VALUES - 1 ? text.length : tree.value(what);
    }

    /** The changes that a command text can ask for: the word and how many numbers follow it. */
    private enum Command {
        GROUP("group", 2),
        TASK("task", 3),
        LAST("last", 2),
        BORROW("borrow", 2),
        BACK("back", 2),
        MOVE("move", 3),
        DROP("drop", 1),
        UNTIL("until", 1);

        final String word;
        final int numberCount;

        Command(String word, int numberCount) {
            this.word = word;
            this.numberCount = numberCount;
        }
    }

    /** Why a change is refused, in the order in which the reasons are told. */
    private enum Refusal { NOT, NO_NODE, OUT_OF_RANGE, IMPOSSIBLE }

    /** A group or a task. The fields behind the first six follow from the tree and are told by Tree.plan(). */
    private static final class Node {
        int number = ROOT;
        boolean isTask = false;
        int groupNumber = NONE;
        int row = NONE;
        int duration = 0;
        int reserve = 0;

        Node group = null;
        Node ahead = null;
        int place = NONE;
        int above = 0;
        int length = 0;
        int start = 0;
        int rowSlack = 0;
        int slack = 0;
        final int[] rowLengths = new int[ROWS];

        void copyFrom(Node other) {
            number = other.number;
            isTask = other.isTask;
            groupNumber = other.groupNumber;
            row = other.row;
            duration = other.duration;
            reserve = other.reserve;
        }

        boolean isCritical() {
            return slack == 0;
        }

        boolean isCriticalTask() {
            return isTask && isCritical();
        }

        boolean runsAt(int time) {
            return isTask && start <= time && time < start + length;
        }

        boolean standsIn(int otherGroup, int otherRow) {
            return groupNumber == otherGroup && row == otherRow;
        }

        boolean isWithin(Node top) {
            for (Node node = this; node != null; node = node.group) {
                if (node == top) {
                    return true;
                }
            }
            return false;
        }

        int whyNotTo(Node target) {
            if (number == ROOT) {
                return 1;
            }
            if (target.isTask) {
                return 2;
            }
            return target.isWithin(this) ? 3 : 0;
        }

        int rowLength(int asked) {
            return asked >= 0 && asked < ROWS ? rowLengths[asked] : 0;
        }

        void lengthenRow(int asked, int by) {
            if (asked >= 0 && asked < ROWS) {
                rowLengths[asked] += by;
            }
        }

        int longestRowBut(int asked) {
            int longest = 0;
            for (int i = 0; i < ROWS; i++) {
                if (i != asked && rowLengths[i] > longest) {
                    longest = rowLengths[i];
                }
            }
            return longest;
        }

        /** A growing duration eats the reserve; a shrinking one leaves it. */
        int reserveWith(int newDuration) {
            int grown = Math.max(0, newDuration - duration);
            return Math.max(0, reserve - grown);
        }

        int lengthWith(int newDuration) {
            return newDuration + reserveWith(newDuration);
        }

        /** The end if this node had another length: only its row changes in each group above. */
        int endIfLength(int newLength) {
            int changed = newLength;
            Node below = this;
            for (Node over = group; over != null; over = over.group) {
                int rowThen = over.rowLength(below.row) - below.length + changed;
                changed = Math.max(rowThen, over.longestRowBut(below.row));
                below = over;
            }
            return changed;
        }

        int value(int what) {
            switch (what) {
                case 0:
                    return isTask ? 1 : 0;
                case 1:
                    return groupNumber;
                case 2:
                    return row;
                case 3:
                    return place;
                case 4:
                    return isTask ? duration : NONE;
                case 5:
                    return isTask ? reserve : NONE;
                case 6:
                    return length;
                case 7:
                    return start;
                case 8:
                    return start + slack;
                case 9:
                    return slack;
                case 10:
                    return rowSlack;
                case 11:
                    return isCritical() ? 1 : 0;
                default:
                    return above;
            }
        }
    }

    /** A state: the nodes and the deadline, and all that follows from them. */
    private static final class Tree {
        /** The root, then the others in the order in which they came into their rows; those behind size are spare. */
        private final Node[] nodes = new Node[MOST_NODES];
        /** The same nodes, each behind its group and behind the child ahead of it. */
        private final Node[] order = new Node[MOST_NODES];
        private int size = 1;
        private int added = 1;
        private int deadline = FIRST_DEADLINE;

        Tree() {
            for (int i = 0; i < MOST_NODES; i++) {
                nodes[i] = new Node();
                order[i] = nodes[i];
            }
        }

        /** Takes over what is saved; plan() must follow before anything else is asked. */
        void copyFrom(Tree other) {
            size = other.size;
            added = other.added;
            deadline = other.deadline;
            for (int i = 0; i < MOST_NODES; i++) {
                nodes[i].copyFrom(other.nodes[i]);
            }
        }

        Node find(int number) {
            for (int i = 0; i < size; i++) {
                if (nodes[i].number == number) {
                    return nodes[i];
                }
            }
            return null;
        }

        // -- what follows from the tree

        void plan() {
            findOrder();
            measureLengths();
            for (int i = 0; i < size; i++) {
                tellTimes(order[i]);
            }
        }

        private void findOrder() {
            order[0] = nodes[0];
            int known = 1;
            for (int i = 0; i < known; i++) {
                Node group = order[i];
                for (int k = 1; k < size; k++) {
                    Node node = nodes[k];
                    if (node.groupNumber == group.number && known < MOST_NODES) {
                        node.group = group;
                        node.ahead = findAhead(k);
                        order[known] = node;
                        known++;
                    }
                }
            }
        }

        private Node findAhead(int index) {
            Node node = nodes[index];
            for (int i = index - 1; i > 0; i--) {
                Node other = nodes[i];
                if (other.groupNumber == node.groupNumber && other.row == node.row) {
                    return other;
                }
            }
            return null;
        }

        private void measureLengths() {
            for (int i = 0; i < size; i++) {
                for (int r = 0; r < ROWS; r++) {
                    nodes[i].rowLengths[r] = 0;
                }
            }
            for (int i = size - 1; i >= 0; i--) {
                Node node = order[i];
                node.length = node.isTask ? node.duration + node.reserve : node.longestRowBut(NONE);
                if (node.group != null) {
                    node.group.lengthenRow(node.row, node.length);
                }
            }
        }

        private void tellTimes(Node node) {
            Node group = node.group;
            Node ahead = node.ahead;
            if (group == null) {
                return;
            }
            node.above = group.above + 1;
            node.place = ahead == null ? 0 : ahead.place + 1;
            node.start = ahead == null ? group.start : ahead.start + ahead.length;
            node.rowSlack = group.length - group.rowLength(node.row);
            node.slack = node.rowSlack + group.slack;
        }

        // -- changes

        Refusal refusal(Command command, int first, int second, int third) {
            if (command == Command.UNTIL) {
                return isBetween(first, 0, MOST_DEADLINE) ? Refusal.NOT : Refusal.OUT_OF_RANGE;
            }
            Node node = find(first);
            if (node == null || command == Command.MOVE && find(second) == null) {
                return Refusal.NO_NODE;
            }
            if (!areInRange(command, second, third)) {
                return Refusal.OUT_OF_RANGE;
            }
            return isPossible(command, node, second) ? Refusal.NOT : Refusal.IMPOSSIBLE;
        }

        private static boolean areInRange(Command command, int second, int third) {
            switch (command) {
                case GROUP:
                    return isBetween(second, 0, ROWS - 1);
                case TASK:
                    return isBetween(second, 0, ROWS - 1) && isBetween(third, 0, MOST_DURATION);
                case MOVE:
                    return isBetween(third, 0, ROWS - 1);
                case LAST:
                    return isBetween(second, 0, MOST_DURATION);
                case BORROW:
                case BACK:
                    return isBetween(second, LEAST_AMOUNT, MOST_AMOUNT);
                default:
                    return true;
            }
        }

        private boolean isPossible(Command command, Node node, int second) {
            switch (command) {
                case GROUP:
                case TASK:
                    return !node.isTask && size < MOST_NODES;
                case MOVE:
                    return canMoveTo(node, find(second));
                case DROP:
                    return node.number != ROOT;
                case BORROW:
                    return node.isTask && node.slack >= second;
                case BACK:
                    return node.isTask && node.reserve >= second;
                default:
                    return node.isTask;
            }
        }

        private static boolean canMoveTo(Node node, Node target) {
            return target != null && node.whyNotTo(target) == 0;
        }

        /** Makes a change that refusal() does not refuse, and returns what its method answers. */
        int carryOut(Command command, int first, int second, int third) {
            if (command == Command.UNTIL) {
                deadline = first;
                return lateness();
            }
            Node node = find(first);
            if (node == null) {
                return NONE;
            }
            switch (command) {
                case GROUP:
                    return addNode(node, second, false, 0);
                case TASK:
                    return addNode(node, second, true, third);
                case MOVE:
                    return putLast(node, second, third);
                case DROP:
                    return dropAll(node);
                case LAST:
                    return changeDuration(node, second);
                case BORROW:
                    return changeReserve(node, second);
                default:
                    return changeReserve(node, -second);
            }
        }

        private int addNode(Node group, int row, boolean isTask, int duration) {
            if (size >= MOST_NODES) {
                return NONE;
            }
            Node node = nodes[size];
            node.number = added;
            node.isTask = isTask;
            node.groupNumber = group.number;
            node.row = row;
            node.duration = duration;
            node.reserve = 0;
            size++;
            added++;
            plan();
            return node.number;
        }

        private int putLast(Node node, int groupNumber, int row) {
            int to = 0;
            for (int i = 0; i < size; i++) {
                Node other = nodes[i];
                if (other != node) {
                    nodes[to] = other;
                    to++;
                }
            }
            nodes[size - 1] = node;
            node.groupNumber = groupNumber;
            node.row = row;
            plan();
            return node.place;
        }

        private int dropAll(Node top) {
            int kept = 0;
            for (int i = 0; i < size; i++) {
                Node node = nodes[i];
                if (!node.isWithin(top)) {
                    nodes[i] = nodes[kept];
                    nodes[kept] = node;
                    kept++;
                }
            }
            int dropped = size - kept;
            size = kept;
            plan();
            return dropped;
        }

        private int changeDuration(Node task, int duration) {
            task.reserve = task.reserveWith(duration);
            task.duration = duration;
            plan();
            return end();
        }

        private int changeReserve(Node task, int by) {
            task.reserve += by;
            plan();
            return task.reserve;
        }

        // -- values

        private int end() {
            return nodes[0].length;
        }

        private int lateness() {
            return Math.max(0, end() - deadline);
        }

        int value(int what) {
            switch (what) {
                case 0:
                    return size;
                case 1:
                    return countTasks();
                case 2:
                    return end();
                case 3:
                    return deadline;
                case 4:
                    return lateness();
                case 5:
                    return countCriticalTasks();
                case 6:
                    return countCriticalRows();
                case 7:
                    return sumOfDurations();
                case 8:
                    return sumOfReserves();
                case 9:
                    return mostRunning();
                default:
                    return added;
            }
        }

        private int countTasks() {
            int count = 0;
            for (int i = 0; i < size; i++) {
                count += nodes[i].isTask ? 1 : 0;
            }
            return count;
        }

        private int countCriticalTasks() {
            int count = 0;
            for (int i = 0; i < size; i++) {
                count += nodes[i].isCriticalTask() ? 1 : 0;
            }
            return count;
        }

        private int countCriticalRows() {
            int count = 0;
            for (int i = 0; i < size; i++) {
                for (int r = 0; r < ROWS; r++) {
                    count += isCriticalRow(nodes[i], r) ? 1 : 0;
                }
            }
            return count;
        }

        private int sumOfDurations() {
            int sum = 0;
            for (int i = 0; i < size; i++) {
                sum += nodes[i].isTask ? nodes[i].duration : 0;
            }
            return sum;
        }

        private int sumOfReserves() {
            int sum = 0;
            for (int i = 0; i < size; i++) {
                sum += nodes[i].isTask ? nodes[i].reserve : 0;
            }
            return sum;
        }

        /** The number that run only rises where a task starts, so no other time need be looked at. */
        private int mostRunning() {
            int most = 0;
            for (int i = 0; i < size; i++) {
                if (nodes[i].isTask) {
                    most = Math.max(most, countRunning(nodes[i].start));
                }
            }
            return most;
        }

        int countRunning(int time) {
            int count = 0;
            for (int i = 0; i < size; i++) {
                count += nodes[i].runsAt(time) ? 1 : 0;
            }
            return count;
        }

        int rowValue(Node group, int row, int what) {
            switch (what) {
                case 0:
                    return countChildren(group, row);
                case 1:
                    return group.rowLength(row);
                case 2:
                    return group.length - group.rowLength(row);
                default:
                    return isCriticalRow(group, row) ? 1 : 0;
            }
        }

        private int countChildren(Node group, int row) {
            int count = 0;
            for (int i = 1; i < size; i++) {
                count += nodes[i].standsIn(group.number, row) ? 1 : 0;
            }
            return count;
        }

        private boolean isCriticalRow(Node group, int row) {
            return group.isCritical() && group.length == group.rowLength(row) && countChildren(group, row) > 0;
        }

        int childNumber(Node group, int row, int place) {
            for (int i = 1; i < size; i++) {
                Node node = nodes[i];
                if (node.standsIn(group.number, row) && node.place == place) {
                    return node.number;
                }
            }
            return NONE;
        }

        int criticalNumber(int index) {
            if (index >= size) {
                return NONE;
            }
            Node task = nextCritical(null);
            for (int i = 0; i < index && task != null; i++) {
                task = nextCritical(task);
            }
            return task == null ? NONE : task.number;
        }

        /** The critical task that comes next behind one, or the first one behind null. */
        private Node nextCritical(Node last) {
            Node next = null;
            for (int i = 0; i < size; i++) {
                Node node = nodes[i];
                boolean isLater = last == null || startsBefore(last, node);
                if (node.isCriticalTask() && isLater && (next == null || startsBefore(node, next))) {
                    next = node;
                }
            }
            return next;
        }

        private static boolean startsBefore(Node one, Node other) {
            return one.start < other.start || one.start == other.start && one.number < other.number;
        }

        /** The node with the next greater number, or null. */
        private Node nextNumbered(int number) {
            Node next = null;
            for (int i = 0; i < size; i++) {
                Node node = nodes[i];
                if (node.number > number && (next == null || node.number < next.number)) {
                    next = node;
                }
            }
            return next;
        }

        // -- what if

        int greatestDuration(Node task) {
            int greatest = task.duration;
            while (greatest < MOST_DURATION && task.endIfLength(task.lengthWith(greatest + 1)) <= end()) {
                greatest++;
            }
            return greatest;
        }

        int cutNumber() {
            Node best = null;
            for (int i = 0; i < size; i++) {
                Node node = nodes[i];
                if (node.isTask && node.duration >= 1 && (best == null || node.number < best.number)
                        && node.endIfLength(node.lengthWith(node.duration - 1)) < end()) {
                    best = node;
                }
            }
            return best == null ? NONE : best.number;
        }

        int slackIfBorrowed(Node node, Node task) {
            int all = task.slack;
            task.reserve += all;
            plan();
            int slackThen = node.slack;
            task.reserve -= all;
            plan();
            return slackThen;
        }

        // -- checksum

        long mixNodes(long start) {
            long h = start;
            Node node = nextNumbered(NONE);
            for (int i = 0; i < size && node != null; i++) {
                h = mixNode(h, node);
                node = nextNumbered(node.number);
            }
            return h;
        }

        private long mixNode(long start, Node node) {
            long h = mix(start, node.number);
            for (int what = 0; what < NODE_VALUES; what++) {
                h = mix(h, node.value(what));
            }
            for (int k = 0; !node.isTask && k < ROWS * ROW_VALUES; k++) {
                h = mix(h, rowValue(node, k / ROW_VALUES, k % ROW_VALUES));
            }
            return h;
        }

        long mixCritical(long start) {
            long h = start;
            Node task = nextCritical(null);
            for (int i = 0; i < size && task != null; i++) {
                h = mix(h, task.number);
                task = nextCritical(task);
            }
            return h;
        }
    }

    /** The command text, and a reader that goes over it from command to command. */
    private static final class CommandText {
        private static final int END = -1;

        private final int[] bytes = new int[MOST_BYTES];
        int length = 0;
        /** The numbers of the command that was read last; those that it does not have are 0. */
        final int[] numbers = new int[MOST_NUMBERS];
        private int at = 0;
        private int fault = NONE;

        boolean append(int value) {
            if (length >= MOST_BYTES) {
                return false;
            }
            bytes[length] = value;
            length++;
            return true;
        }

        int findFault() {
            rewind();
            Command command = readCommand();
            for (int i = 0; i < MOST_BYTES && command != null; i++) {
                command = readCommand();
            }
            return fault;
        }

        void rewind() {
            at = 0;
            fault = NONE;
        }

        /** The next command; null if there is none, or if it has a fault, which is kept then. */
        Command readCommand() {
            skipSpaces();
            if (peek() == END) {
                return null;
            }
            int wordStart = at;
            Command command = readWord();
            if (command == null) {
                fault = wordStart;
                return null;
            }
            if (!readNumbers(command.numberCount) || !readSemicolon()) {
                fault = at;
                return null;
            }
            return command;
        }

        private int peek() {
            return at < length && at < MOST_BYTES ? bytes[at] : END;
        }

        private boolean isAtLetter() {
            return isBetween(peek(), 'a', 'z');
        }

        private boolean isAtDigit() {
            return isBetween(peek(), '0', '9');
        }

        private boolean skipSpaces() {
            int from = at;
            while (at < length && peek() == ' ') {
                at++;
            }
            return at > from;
        }

        private Command readWord() {
            int from = at;
            while (at < length && isAtLetter()) {
                at++;
            }
            for (int i = 0; i < COMMANDS.length; i++) {
                if (isWordAt(COMMANDS[i].word, from)) {
                    return COMMANDS[i];
                }
            }
            return null;
        }

        /** Whether the letters from there up to the reader's place are the word. */
        private boolean isWordAt(String word, int from) {
            if (from < 0 || at > MOST_BYTES || at - from != word.length()) {
                return false;
            }
            for (int i = 0; i < word.length(); i++) {
                if (bytes[from + i] != word.charAt(i)) {
                    return false;
                }
            }
            return true;
        }

        private boolean readNumbers(int count) {
            for (int i = 0; i < MOST_NUMBERS; i++) {
                numbers[i] = 0;
            }
            for (int i = 0; i < count && i < MOST_NUMBERS; i++) {
                if (!skipSpaces() || !isAtDigit()) {
                    return false;
                }
                numbers[i] = readDigits();
            }
            return true;
        }

        /** A fourth digit is left standing: what follows a number cannot begin with it. */
        private int readDigits() {
            int number = 0;
            for (int i = 0; i < MOST_DIGITS && isAtDigit(); i++) {
                number = 10 * number + peek() - '0';
                at++;
            }
            return number;
        }

        private boolean readSemicolon() {
            skipSpaces();
            if (peek() != ';') {
                return false;
            }
            at++;
            return true;
        }
    }
}
