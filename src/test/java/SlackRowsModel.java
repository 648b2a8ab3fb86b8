import java.util.ArrayDeque;
import java.util.ArrayList;
import java.util.Collection;
import java.util.Comparator;
import java.util.Deque;
import java.util.List;
import java.util.Map;
import java.util.Random;
import java.util.TreeMap;

/**
 * Long runs of calls, each answer compared with that of a second program, which
 * is written from the document alone and answers what-if questions by trying.
 */
public final class SlackRowsModel {
    private static final int RUNS = 600;
    private static final int CALLS = 512;
    private static final String NO_NODE = "throws.IndexOutOfBoundsException";
    private static final String RANGE = "throws.IllegalArgumentException";
    private static final String STATE = "throws.IllegalStateException";

    // ---- the second program

    private static final class Item {
        final boolean isTask;
        Item group;
        int row = -1;
        int duration;
        int reserve;
        final int number;
        final List<List<Item>> rows = new ArrayList<>();

        Item(int number, boolean isTask, int duration) {
            this.number = number;
            this.isTask = isTask;
            this.duration = duration;
            for (int r = 0; r < 4; r++) {
                rows.add(new ArrayList<>());
            }
        }

        int rowLength(int r) {
            int sum = 0;
            for (Item item : rows.get(r)) {
                sum += item.length();
            }
            return sum;
        }

        int length() {
            if (isTask) {
                return duration + reserve;
            }
            int greatest = 0;
            for (int r = 0; r < 4; r++) {
                greatest = Math.max(greatest, rowLength(r));
            }
            return greatest;
        }

        int place() {
            return group == null ? -1 : group.rows.get(row).indexOf(this);
        }

        int start() {
            if (group == null) {
                return 0;
            }
            int place = place();
            if (place == 0) {
                return group.start();
            }
            Item ahead = group.rows.get(row).get(place - 1);
            return ahead.start() + ahead.length();
        }

        int rowSlack() {
            return group == null ? 0 : group.length() - group.rowLength(row);
        }

        int slack() {
            return group == null ? 0 : rowSlack() + group.slack();
        }

        int depth() {
            return group == null ? 0 : 1 + group.depth();
        }

        boolean under(Item top) {
            return this == top || group != null && group.under(top);
        }

        void setDuration(int to) {
            if (to > duration) {
                reserve = Math.max(0, reserve - (to - duration));
            }
            duration = to;
        }

        long[] values() {
            return new long[] {isTask ? 1 : 0, group == null ? -1 : group.number, group == null ? -1 : row, place(),
                isTask ? duration : -1, isTask ? reserve : -1, length(), start(), start() + slack(), slack(),
                rowSlack(), slack() == 0 ? 1 : 0, depth()};
        }

        long[] rowValues(int r) {
            int slack = length() - rowLength(r);
            boolean critical = slack == 0 && slack() == 0 && !rows.get(r).isEmpty();
            return new long[] {rows.get(r).size(), rowLength(r), slack, critical ? 1 : 0};
        }
    }

    private static final class State {
        final TreeMap<Integer, Item> items = new TreeMap<>();
        int next = 1;
        int deadline = 99;

        State() {
            items.put(0, new Item(0, false, 0));
        }

        State(State other) {
            next = other.next;
            deadline = other.deadline;
            for (Item item : other.items.values()) {
                Item copy = new Item(item.number, item.isTask, item.duration);
                copy.reserve = item.reserve;
                copy.row = item.row;
                items.put(copy.number, copy);
            }
            for (Item item : other.items.values()) {
                Item copy = items.get(item.number);
                copy.group = item.group == null ? null : items.get(item.group.number);
                for (int r = 0; r < 4; r++) {
                    for (Item child : item.rows.get(r)) {
                        copy.rows.get(r).add(items.get(child.number));
                    }
                }
            }
        }

        int end() {
            return items.get(0).length();
        }

        Collection<Item> all() {
            return items.values();
        }

        List<Item> critical() {
            List<Item> list = new ArrayList<>();
            for (Item item : all()) {
                if (item.isTask && item.slack() == 0) {
                    list.add(item);
                }
            }
            list.sort(Comparator.comparingInt(Item::start).thenComparingInt(i -> i.number));
            return list;
        }

        int running(int time) {
            int count = 0;
            for (Item item : all()) {
                if (item.isTask && item.start() <= time && time < item.start() + item.length()) {
                    count++;
                }
            }
            return count;
        }

        int mostRunning() {
            int most = 0;
            for (int time = 0; time < end(); time++) {
                most = Math.max(most, running(time));
            }
            return most;
        }

        int bestCut() {
            for (Item item : all()) {
                if (item.isTask && item.duration > 0) {
                    int before = end();
                    item.duration--;
                    boolean earlier = end() < before;
                    item.duration++;
                    if (earlier) {
                        return item.number;
                    }
                }
            }
            return -1;
        }
    }

    private State state = new State();
    private final Deque<State> stack = new ArrayDeque<>();
    private final StringBuilder text = new StringBuilder();

    private void save(State before) {
        stack.push(before);
        if (stack.size() > 4) {
            stack.removeLast();
        }
    }

    private static boolean out(int value, int least, int most) {
        return value < least || value > most;
    }

    private String add(boolean isTask, int g, int r, int d) {
        Item group = state.items.get(g);
        if (group == null) {
            return NO_NODE;
        }
        if (out(r, 0, 3) || out(d, 0, 60)) {
            return RANGE;
        }
        if (group.isTask || state.items.size() == 24) {
            return STATE;
        }
        Item item = new Item(state.next++, isTask, d);
        item.group = group;
        item.row = r;
        group.rows.get(r).add(item);
        state.items.put(item.number, item);
        return "" + item.number;
    }

    private String move(int n, int g, int r) {
        Item item = state.items.get(n);
        Item group = state.items.get(g);
        if (item == null || group == null) {
            return NO_NODE;
        }
        if (out(r, 0, 3)) {
            return RANGE;
        }
        if (n == 0 || group.isTask || group.under(item)) {
            return STATE;
        }
        item.group.rows.get(item.row).remove(item);
        item.group = group;
        item.row = r;
        group.rows.get(r).add(item);
        return "" + item.place();
    }

    private String remove(int n) {
        Item item = state.items.get(n);
        if (item == null) {
            return NO_NODE;
        }
        if (n == 0) {
            return STATE;
        }
        int before = state.items.size();
        List<Item> below = new ArrayList<>();
        for (Item other : state.all()) {
            if (other.under(item)) {
                below.add(other);
            }
        }
        for (Item other : below) {
            state.items.remove(other.number);
        }
        item.group.rows.get(item.row).remove(item);
        return "" + (before - state.items.size());
    }

    private String setDuration(int n, int d) {
        Item task = state.items.get(n);
        if (task == null) {
            return NO_NODE;
        }
        if (out(d, 0, 60)) {
            return RANGE;
        }
        if (!task.isTask) {
            return STATE;
        }
        task.setDuration(d);
        return "" + state.end();
    }

    private String reserve(int n, int amount, boolean isBorrowed) {
        Item task = state.items.get(n);
        if (task == null) {
            return NO_NODE;
        }
        if (out(amount, 1, 99)) {
            return RANGE;
        }
        if (!task.isTask || (isBorrowed ? task.slack() : task.reserve) < amount) {
            return STATE;
        }
        task.reserve += isBorrowed ? amount : -amount;
        return "" + task.reserve;
    }

    private String setDeadline(int d) {
        if (out(d, 0, 999)) {
            return RANGE;
        }
        state.deadline = d;
        return "" + Math.max(0, state.end() - d);
    }

    private String change(String word, int a, int b, int c) {
        switch (word) {
            case "group": return add(false, a, b, 0);
            case "task": return add(true, a, b, c);
            case "move": return move(a, b, c);
            case "drop": return remove(a);
            case "last": return setDuration(a, b);
            case "borrow": return reserve(a, b, true);
            case "back": return reserve(a, b, false);
            default: return setDeadline(a);
        }
    }

    private String undoable(String word, int a, int b, int c) {
        State before = new State(state);
        String answer = change(word, a, b, c);
        if (!answer.startsWith("throws")) {
            save(before);
        }
        return answer;
    }

    private static final Map<String, Integer> WORDS = new TreeMap<>(Map.of("group", 2, "task", 3, "last", 2,
        "borrow", 2, "back", 2, "move", 3, "drop", 1, "until", 1));

    /** Goes over the text sign by sign: between commands (0), in a word (1), in front of a number or semicolon (2), in a number (3). */
    private int fault() {
        int mode = 0;
        int wordAt = 0;
        int numbersLeft = 0;
        int digits = 0;
        boolean spaced = false;
        for (int i = 0; i <= text.length(); i++) {
            char c = i < text.length() ? text.charAt(i) : (char) 0xFFFF;
            boolean isLetter = c >= 'a' && c <= 'z';
            boolean isDigit = c >= '0' && c <= '9';
            if (mode == 0) {
                if (isLetter) {
                    mode = 1;
                    wordAt = i;
                } else if (c == 0xFFFF) {
                    return -1;
                } else if (c != ' ') {
                    return i;
                }
                continue;
            }
            if (mode == 1) {
                if (isLetter) {
                    continue;
                }
                Integer count = WORDS.get(text.substring(wordAt, i));
                if (count == null) {
                    return wordAt;
                }
                numbersLeft = count;
                mode = 2;
                spaced = false;
            }
            if (mode == 3) {
                if (isDigit && digits < 3) {
                    digits++;
                    continue;
                }
                mode = 2;
                spaced = false;
            }
            if (c == ' ') {
                spaced = true;
            } else if (isDigit && spaced && numbersLeft > 0) {
                numbersLeft--;
                digits = 1;
                mode = 3;
            } else if (c == ';' && numbersLeft == 0) {
                mode = 0;
            } else {
                return i;
            }
        }
        throw new IllegalStateException();
    }

    private String runCommands() {
        int fault = fault();
        if (fault >= 0) {
            return "" + (-10 - fault);
        }
        save(new State(state));
        int done = 0;
        for (String command : text.toString().split(";")) {
            if (command.isBlank()) {
                continue;
            }
            String[] parts = command.trim().split(" +");
            int[] numbers = new int[3];
            for (int i = 1; i < parts.length; i++) {
                numbers[i - 1] = Integer.parseInt(parts[i]);
            }
            if (change(parts[0], numbers[0], numbers[1], numbers[2]).startsWith("throws")) {
                break;
            }
            done++;
        }
        return "" + done;
    }

    private long[] wholes() {
        long[] v = new long[12];
        v[0] = state.items.size();
        v[2] = state.end();
        v[3] = state.deadline;
        v[4] = Math.max(0, v[2] - v[3]);
        v[5] = state.critical().size();
        for (Item item : state.all()) {
            v[1] += item.isTask ? 1 : 0;
            v[7] += item.duration;
            v[8] += item.reserve;
            for (int r = 0; r < 4 && !item.isTask; r++) {
                v[6] += item.rowValues(r)[3];
            }
        }
        v[9] = state.mostRunning();
        v[10] = state.next;
        v[11] = text.length();
        return v;
    }

    private long digest() {
        List<long[]> parts = new ArrayList<>();
        parts.add(new long[] {stack.size()});
        parts.add(wholes());
        for (Item item : state.all()) {
            parts.add(new long[] {item.number});
            parts.add(item.values());
            for (int r = 0; r < 4 && !item.isTask; r++) {
                parts.add(item.rowValues(r));
            }
        }
        for (Item item : state.critical()) {
            parts.add(new long[] {item.number});
        }
        parts.add(new long[] {state.bestCut()});
        long h = 43828;
        for (long[] part : parts) {
            for (long v : part) {
                h = 31 * h + v;
            }
        }
        return h;
    }

    private String growsTo(Item task) {
        int before = state.end();
        for (int d = 60; d >= 0; d--) {
            State trial = new State(state);
            trial.items.get(task.number).setDuration(d);
            if (trial.end() <= before) {
                return "" + d;
            }
        }
        throw new IllegalStateException();
    }

    private String whatIf(String name, int a, int b) {
        Item first = state.items.get(a);
        Item second = state.items.get(b);
        boolean isPair = name.equals("slackIf") || name.equals("reason");
        if (first == null || isPair && second == null) {
            return NO_NODE;
        }
        if (name.equals("reason")) {
            return a == 0 ? "1" : second.isTask ? "2" : second.under(first) ? "3" : "0";
        }
        if (name.equals("endWith") && out(b, 0, 60)) {
            return RANGE;
        }
        Item task = isPair ? second : first;
        if (!task.isTask) {
            return STATE;
        }
        if (name.equals("growsTo")) {
            return growsTo(task);
        }
        State trial = new State(state);
        Item tried = trial.items.get(task.number);
        if (name.equals("endWith")) {
            tried.setDuration(b);
            return "" + trial.end();
        }
        tried.reserve += task.slack();
        return "" + trial.items.get(a).slack();
    }

    private String value(String name, int a, int b, int c) {
        Item item = state.items.get(a);
        if (name.equals("whole")) {
            return out(a, 0, 11) ? RANGE : "" + wholes()[a];
        }
        if (name.equals("running")) {
            return a < 0 ? RANGE : "" + state.running(a);
        }
        if (name.equals("critical")) {
            List<Item> list = state.critical();
            return a < 0 ? RANGE : a < list.size() ? "" + list.get(a).number : "-1";
        }
        if (item == null) {
            return NO_NODE;
        }
        if (name.equals("node")) {
            return out(b, 0, 12) ? RANGE : "" + item.values()[b];
        }
        boolean isChild = name.equals("child");
        if (out(b, 0, 3) || (isChild ? c < 0 : out(c, 0, 3))) {
            return RANGE;
        }
        if (item.isTask) {
            return STATE;
        }
        if (isChild) {
            List<Item> row = item.rows.get(b);
            return c < row.size() ? "" + row.get(c).number : "-1";
        }
        return "" + item.rowValues(b)[c];
    }

    private String answer(String name, int a, int b, int c) {
        switch (name) {
            case "addGroup": return undoable("group", a, b, c);
            case "addTask": return undoable("task", a, b, c);
            case "move": return undoable("move", a, b, c);
            case "remove": return undoable("drop", a, b, c);
            case "setDuration": return undoable("last", a, b, c);
            case "borrow": return undoable("borrow", a, b, c);
            case "giveBack": return undoable("back", a, b, c);
            case "setDeadline": return undoable("until", a, b, c);
            case "endWith": case "growsTo": case "slackIf": case "reason": return whatIf(name, a, b);
            case "bestCut": return "" + state.bestCut();
            case "type":
                if (out(a, 0, 127)) {
                    return RANGE;
                }
                if (text.length() == 150) {
                    return STATE;
                }
                return "" + text.append((char) a).length();
            case "clearCommands":
                int had = text.length();
                text.setLength(0);
                return "" + had;
            case "runCommands": return runCommands();
            case "undo":
                if (stack.isEmpty()) {
                    return STATE;
                }
                state = stack.pop();
                return "" + stack.size();
            case "digest": return "" + digest();
            default: return value(name, a, b, c);
        }
    }

    // ---- the program under test

    private static long call(SlackRows x, String name, int a, int b, int c) {
        switch (name) {
            case "addGroup": return x.addGroup(a, b);
            case "addTask": return x.addTask(a, b, c);
            case "move": return x.move(a, b, c);
            case "remove": return x.remove(a);
            case "setDuration": return x.setDuration(a, b);
            case "borrow": return x.borrow(a, b);
            case "giveBack": return x.giveBack(a, b);
            case "setDeadline": return x.setDeadline(a);
            case "node": return x.node(a, b);
            case "row": return x.row(a, b, c);
            case "child": return x.child(a, b, c);
            case "critical": return x.critical(a);
            case "running": return x.running(a);
            case "whole": return x.whole(a);
            case "endWith": return x.endWith(a, b);
            case "growsTo": return x.growsTo(a);
            case "bestCut": return x.bestCut();
            case "slackIf": return x.slackIf(a, b);
            case "reason": return x.reason(a, b);
            case "type": return x.type(a);
            case "clearCommands": return x.clearCommands();
            case "runCommands": return x.runCommands();
            case "undo": return x.undo();
            case "digest": return x.digest();
            default: throw new IllegalArgumentException(name);
        }
    }

    /** The very class is told, so that what the machine itself throws does not pass for its elder. */
    private static String got(SlackRows x, String name, int a, int b, int c) {
        try {
            return "" + call(x, name, a, b, c);
        } catch (RuntimeException e) {
            return "throws." + e.getClass().getSimpleName();
        }
    }

    // ---- the runs

    private static final String[] NAMES = {"addGroup", "addTask", "move", "remove", "setDuration", "borrow",
        "giveBack", "setDeadline", "node", "row", "child", "critical", "running", "whole", "endWith", "growsTo",
        "bestCut", "slackIf", "reason", "type", "clearCommands", "runCommands", "undo", "digest"};
    private static final int[] FAR = {Integer.MIN_VALUE, Integer.MAX_VALUE, -1, -2, 24, 61, 60, 100, 99, 999, 1000,
        128, 127, 3, 4, 12, 13, 0, 1};
    private static final String[] SCRAPS = {"group", "task", "last", "borrow", "back", "move", "drop", "until", ";",
        " ", "  ", "0", "12", "007", "1234", "x", "A", "tas", "lasts", "\u0000", "\u007f", ":", "/", "`", "{"};

    private final Random random;
    private final SlackRows x = new SlackRows();
    private final List<String> told = new ArrayList<>();
    private int calls = 0;

    private SlackRowsModel(long seed) {
        random = new Random(seed);
    }

    private int anyNode() {
        if (random.nextInt(12) == 0) {
            return random.nextInt(state.next + 2) - 1;
        }
        List<Integer> numbers = new ArrayList<>(state.items.keySet());
        return numbers.get(random.nextInt(numbers.size()));
    }

    private int anyOf(boolean isTask) {
        int n = anyNode();
        for (int i = 0; i < 6 && (state.items.get(n) == null || state.items.get(n).isTask != isTask); i++) {
            n = anyNode();
        }
        return n;
    }

    /** Small durations make rows of the same length, and so many critical ones. */
    private int anyDuration() {
        return random.nextInt(3) == 0 ? random.nextInt(62) : random.nextInt(6);
    }

    private int slackOf(int n) {
        Item item = state.items.get(n);
        return item == null ? 0 : item.slack();
    }

    private int[] arguments(String name) {
        int task = anyOf(true);
        int group = anyOf(false);
        int r = random.nextInt(9) == 0 ? random.nextInt(6) - 1 : random.nextInt(4);
        switch (name) {
            case "addGroup": return new int[] {group, r, 0};
            case "addTask": return new int[] {group, r, anyDuration()};
            case "move": return new int[] {anyNode(), group, r};
            case "remove": return new int[] {random.nextInt(3) == 0 ? anyNode() : task, 0, 0};
            case "setDuration": case "endWith": return new int[] {task, anyDuration(), 0};
            case "borrow":
                int near = slackOf(task) + random.nextInt(3) - 1;
                return new int[] {task, random.nextBoolean() ? near : random.nextInt(102), 0};
            case "giveBack":
                Item item = state.items.get(task);
                return new int[] {task, (item == null ? 0 : item.reserve) + random.nextInt(4) - 2, 0};
            case "setDeadline": return new int[] {random.nextInt(150), 0, 0};
            case "node": return new int[] {anyNode(), random.nextInt(15) - 1, 0};
            case "row": return new int[] {group, r, random.nextInt(6) - 1};
            case "child": return new int[] {group, r, random.nextInt(5) - 1};
            case "critical": return new int[] {random.nextInt(8) - 1, 0, 0};
            case "running": return new int[] {random.nextInt(state.end() + 3) - 1, 0, 0};
            case "whole": return new int[] {random.nextInt(14) - 1, 0, 0};
            case "slackIf": return new int[] {anyNode(), task, 0};
            case "reason": return new int[] {anyNode(), anyNode(), 0};
            case "type": return new int[] {random.nextInt(130) - 1, 0, 0};
            default: return new int[] {task, 0, 0};
        }
    }

    private boolean isSame(String name, int a, int b, int c) {
        if (calls >= CALLS) {
            return true;
        }
        String due = answer(name, a, b, c);
        String got = got(x, name, a, b, c);
        told.add(name + "(" + a + ", " + b + ", " + c + ") = " + got);
        calls++;
        if (due.equals(got)) {
            return true;
        }
        System.out.println(String.join("\n", told) + "\n   due is " + due);
        return false;
    }

    private boolean typeAll(String written) {
        for (int i = 0; i < written.length() && calls < CALLS; i++) {
            if (!isSame("type", written.charAt(i), 0, 0)) {
                return false;
            }
        }
        return true;
    }

    private String anyCommand() {
        String[] names = {"addGroup", "addTask", "setDuration", "borrow", "giveBack", "move", "remove", "setDeadline"};
        String[] words = {"group", "task", "last", "borrow", "back", "move", "drop", "until"};
        int k = random.nextInt(names.length);
        int[] numbers = arguments(names[k]);
        StringBuilder command = new StringBuilder(random.nextInt(5) == 0 ? " " : "").append(words[k]);
        for (int i = 0; i < WORDS.get(words[k]); i++) {
            command.append(random.nextInt(6) == 0 ? "  " : " ").append(random.nextInt(6) == 0 ? "0" : "");
            command.append(Math.max(0, Math.min(99, numbers[i])));
        }
        return command.append(random.nextInt(6) == 0 ? " ;" : ";").toString();
    }

    private boolean writeCommands() {
        boolean isFine = isSame("clearCommands", 0, 0, 0);
        StringBuilder written = new StringBuilder();
        for (int i = random.nextInt(4); i >= 0; i--) {
            written.append(random.nextInt(9) == 0 ? SCRAPS[random.nextInt(SCRAPS.length)] : anyCommand());
        }
        if (random.nextInt(4) == 0) {
            int at = random.nextInt(written.length() + 1);
            String scrap = SCRAPS[random.nextInt(SCRAPS.length)];
            if (random.nextBoolean()) {
                written.insert(at, scrap);
            } else {
                written.setLength(at);
            }
        }
        return isFine && typeAll(written.toString()) && isSame("runCommands", 0, 0, 0) && isSame("digest", 0, 0, 0);
    }

    private boolean step(int textsIn, int growsIn) {
        if (random.nextInt(textsIn) == 0) {
            return writeCommands();
        }
        String name = NAMES[random.nextInt(NAMES.length)];
        if (random.nextInt(growsIn) == 0) {
            name = random.nextInt(3) == 0 ? "addGroup" : "addTask";
        }
        int[] with = arguments(name);
        if (random.nextInt(15) == 0) {
            with[random.nextInt(3)] = FAR[random.nextInt(FAR.length)];
        }
        return isSame(name, with[0], with[1], with[2])
            && (random.nextInt(4) != 0 || isSame("digest", 0, 0, 0));
    }

    private boolean run() {
        int textsIn = 10 + random.nextInt(60);
        int growsIn = 2 + random.nextInt(6);
        while (calls < CALLS) {
            if (!step(textsIn, growsIn)) {
                return false;
            }
        }
        return true;
    }

    /** A text of scraps alone, for its fault. */
    private boolean runOfScraps() {
        while (calls < CALLS) {
            StringBuilder written = new StringBuilder();
            for (int i = random.nextInt(12); i >= 0; i--) {
                written.append(SCRAPS[random.nextInt(SCRAPS.length)]);
            }
            boolean isFine = isSame("clearCommands", 0, 0, 0) && typeAll(written.toString())
                && isSame("runCommands", 0, 0, 0);
            if (!isFine) {
                return false;
            }
        }
        return true;
    }

    public static void main(String[] args) {
        int runs = args.length > 0 ? Integer.parseInt(args[0]) : RUNS;
        for (int seed = 0; seed < runs; seed++) {
            SlackRowsModel run = new SlackRowsModel(seed);
            if (!(seed % 5 == 4 ? run.runOfScraps() : run.run())) {
                System.out.println("run " + seed + " answers otherwise than the document asks");
                System.exit(1);
            }
        }
        System.out.println(runs + " runs of " + CALLS + " calls answer as the second program does");
    }
}
