import java.util.ArrayList;
import java.util.Comparator;
import java.util.List;
import java.util.Random;

/**
 * What the document says of every tree, asked of random trees: the answers of an
 * object are compared with one another, and what-if answers with what comes when
 * the change is made. No second program stands behind this, so it does not share
 * a misreading with one.
 */
public final class SlackRowsLaws {
    private static final int TREES = 150;
    private static final int MOST_AMOUNT = 99;
    private static final int MOST_DURATION = 60;

    private final Random random;
    private final StringBuilder built = new StringBuilder();
    private SlackRows x;

    private SlackRowsLaws(long seed) {
        random = new Random(seed);
    }

    // ---- the tree

    private void build() throws Exception {
        x = new SlackRows();
        List<Integer> groups = new ArrayList<>(List.of(0));
        int nodes = 1 + random.nextInt(23);
        for (int n = 1; n <= nodes; n++) {
            int group = groups.get(random.nextInt(groups.size()));
            int row = random.nextInt(4);
            if (random.nextInt(3) == 0) {
                groups.add(n);
                change("addGroup(" + group + ", " + row + ")");
            } else {
                change("addTask(" + group + ", " + row + ", " + duration() + ")");
            }
        }
        for (int i = 0; i < 20; i++) {
            int n = 1 + random.nextInt(nodes);
            int other = random.nextInt(nodes);
            String one = "(" + n + ", ";
            switch (random.nextInt(4)) {
                case 0: change("move" + one + other + ", " + random.nextInt(4) + ")"); break;
                case 1: change("borrow" + one + (1 + random.nextInt(12)) + ")"); break;
                case 2: change("setDuration" + one + duration() + ")"); break;
                default: change("giveBack" + one + (1 + random.nextInt(3)) + ")"); break;
            }
        }
        if (random.nextInt(3) == 0) {
            change("remove(" + (1 + random.nextInt(nodes)) + ")");
        }
        x = twin();
    }

    private void change(String call) {
        built.append(call).append('\n');
    }

    /** Durations that are often the same make rows of the same length. */
    private int duration() {
        return random.nextInt(4) == 0 ? random.nextInt(61) : random.nextInt(5);
    }

    /** Another object with the same tree, since one is used for 512 calls only. */
    private SlackRows twin() throws Exception {
        return Script.run("a tree", built.toString());
    }

    private void same(String what, long got, long due) {
        Script.same(built + what, got, due);
    }

    private boolean exists(int n) {
        try {
            x.node(n, 0);
            return true;
        } catch (IndexOutOfBoundsException e) {
            return false;
        }
    }

    private List<Integer> nodes() throws Exception {
        x = twin();
        List<Integer> found = new ArrayList<>();
        int added = x.whole(10);
        for (int n = 0; n < added; n++) {
            if (exists(n)) {
                found.add(n);
            }
        }
        same("whole(0)", x.whole(0), found.size());
        return found;
    }

    // ---- what is true of every tree

    private void groupsHold(List<Integer> nodes) throws Exception {
        int criticalRows = 0;
        for (int g : nodes) {
            x = twin();
            if (x.node(g, 0) == 1) {
                same("length of " + g, x.node(g, 6), x.node(g, 4) + x.node(g, 5));
                continue;
            }
            int longest = 0;
            for (int r = 0; r < 4; r++) {
                int at = rowHolds(g, r);
                longest = Math.max(longest, at - x.node(g, 7));
                criticalRows += x.row(g, r, 3);
            }
            same("length of " + g, x.node(g, 6), longest);
        }
        same("whole(6)", twin().whole(6), criticalRows);
    }

    /** Goes along a row, and returns when its last child ends. */
    private int rowHolds(int g, int r) {
        int at = x.node(g, 7);
        int place = 0;
        for (int n = x.child(g, r, 0); n != SlackRows.NONE; n = x.child(g, r, place)) {
            same("group of " + n, x.node(n, 1), g);
            same("row of " + n, x.node(n, 2), r);
            same("place of " + n, x.node(n, 3), place);
            same("start of " + n, x.node(n, 7), at);
            same("row's slack of " + n, x.node(n, 10), x.row(g, r, 2));
            same("slack of " + n, x.node(n, 9), x.row(g, r, 2) + x.node(g, 9));
            same("latest start of " + n, x.node(n, 8), at + x.node(n, 9));
            same("groups above " + n, x.node(n, 12), x.node(g, 12) + 1);
            same("whether " + n + " is critical", x.node(n, 11), x.node(n, 9) == 0 ? 1 : 0);
            at += x.node(n, 6);
            place++;
        }
        same("children", x.row(g, r, 0), place);
        same("length of the row", x.row(g, r, 1), at - x.node(g, 7));
        same("slack of the row", x.row(g, r, 2), x.node(g, 6) - x.row(g, r, 1));
        boolean isCritical = place > 0 && x.row(g, r, 2) == 0 && x.node(g, 9) == 0;
        same("whether the row is critical", x.row(g, r, 3), isCritical ? 1 : 0);
        return at;
    }

    /** "If a task becomes longer by no more than the slack, the end stays as it is." */
    private void taskHolds(int t) throws Exception {
        x = twin();
        int end = x.whole(2);
        int slack = x.node(t, 9);
        int duration = x.node(t, 4);
        int reserve = x.node(t, 5);
        int grown = Math.min(MOST_DURATION, duration + reserve + slack);
        same("growsTo(" + t + ")", x.growsTo(t), grown);
        same("end with what " + t + " grows to", x.endWith(t, grown), end);
        if (grown < MOST_DURATION) {
            same("end with one more", x.endWith(t, grown + 1), end + 1);
        }
        for (int d = 0; d <= MOST_DURATION; d++) {
            same("endWith(" + t + ", " + d + ")", x.endWith(t, d), twin().setDuration(t, d));
        }
    }

    /** "Slack told is just what can be lost": all of it can be borrowed, and not one more. */
    private void borrowHolds(int t, List<Integer> nodes) throws Exception {
        SlackRows before = twin();
        SlackRows after = twin();
        int end = after.whole(2);
        int left = after.node(t, 9);
        int reserve = after.node(t, 5);
        int due = reserve + left;
        while (left > 0) {
            int part = Math.min(left, MOST_AMOUNT);
            reserve = after.borrow(t, part);
            left -= part;
        }
        same("reserve of " + t, reserve, due);
        same("slack left of " + t, after.node(t, 9), 0);
        same("end when " + t + " borrowed", after.whole(2), end);
        for (int n : nodes) {
            same("slackIf(" + n + ", " + t + ")", before.slackIf(n, t), after.node(n, 9));
        }
        boolean isRefused = false;
        try {
            after.borrow(t, 1);
        } catch (IllegalStateException e) {
            isRefused = true;
        }
        same("whether " + t + " can borrow more", isRefused ? 0 : 1, 0);
    }

    private void cutHolds(List<Integer> tasks) throws Exception {
        x = twin();
        int best = SlackRows.NONE;
        for (int t : tasks) {
            int shorter = x.node(t, 4) - 1;
            if (best == SlackRows.NONE && shorter >= 0 && twin().setDuration(t, shorter) < x.whole(2)) {
                best = t;
            }
        }
        same("bestCut()", x.bestCut(), best);
    }

    private void criticalHolds(List<Integer> tasks) throws Exception {
        x = twin();
        List<Integer> due = new ArrayList<>();
        for (int t : tasks) {
            if (x.node(t, 9) == 0) {
                due.add(t);
            }
        }
        SlackRows starts = twin();
        due.sort(Comparator.comparingInt((Integer t) -> starts.node(t, 7)).thenComparingInt(t -> t));
        for (int i = 0; i < due.size(); i++) {
            same("critical(" + i + ")", x.critical(i), due.get(i));
        }
        same("critical(" + due.size() + ")", x.critical(due.size()), SlackRows.NONE);
        same("whole(5)", x.whole(5), due.size());
    }

    private void runningHolds(List<Integer> tasks) throws Exception {
        x = twin();
        int most = 0;
        int sum = 0;
        int lengths = 0;
        for (int t : tasks) {
            lengths += x.node(t, 6);
        }
        int end = x.whole(2);
        SlackRows asked = x;
        for (int time = 0; time <= end; time++) {
            asked = time % 200 == 0 ? twin() : asked;
            int count = asked.running(time);
            most = Math.max(most, count);
            sum += count;
        }
        same("whole(9)", x.whole(9), most);
        same("all that run at all times", sum, lengths);
        same("running at the end", twin().running(end), 0);
        same("whole(1)", x.whole(1), tasks.size());
        same("whole(7) and whole(8)", x.whole(7) + x.whole(8), lengths);
        same("whole(4)", x.whole(4), Math.max(0, end - x.whole(3)));
    }

    /** "0 it can": reason() is 0 just where a move is not refused. */
    private void reasonHolds(int n, List<Integer> nodes) throws Exception {
        x = twin();
        for (int g : nodes) {
            int answer = 0;
            try {
                twin().move(n, g, 0);
            } catch (IllegalStateException e) {
                answer = 1;
            }
            same("reason(" + n + ", " + g + ")", Math.min(1, x.reason(n, g)), answer);
        }
    }

    private void hold() throws Exception {
        build();
        List<Integer> nodes = nodes();
        List<Integer> tasks = new ArrayList<>();
        for (int n : nodes) {
            if (twin().node(n, 0) == 1) {
                tasks.add(n);
            }
        }
        groupsHold(nodes);
        cutHolds(tasks);
        criticalHolds(tasks);
        runningHolds(tasks);
        for (int t : tasks) {
            borrowHolds(t, nodes);
        }
        if (!tasks.isEmpty()) {
            taskHolds(tasks.get(random.nextInt(tasks.size())));
        }
        reasonHolds(nodes.get(random.nextInt(nodes.size())), nodes);
    }

    public static void main(String[] args) throws Exception {
        for (int seed = 0; seed < TREES; seed++) {
            new SlackRowsLaws(seed).hold();
        }
        Script.finish();
    }
}
