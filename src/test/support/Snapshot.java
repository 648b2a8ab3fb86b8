import java.math.BigInteger;
import java.util.ArrayList;
import java.util.List;

/**
 * All values that an object tells after a run of calls, in the order of the
 * digest. They come from several objects with the same run, since one object is
 * used for 512 calls only.
 */
final class Snapshot {
    private final String script;
    private final List<Long> values = new ArrayList<>();

    private Snapshot(String script) {
        this.script = script;
    }

    static List<Long> of(String script) throws Exception {
        Snapshot all = new Snapshot(script);
        all.addWhole();
        for (int number : all.numbers()) {
            all.addNode(number);
        }
        all.addCritical();
        return all.values;
    }

    /** The digest that is due after the run, with so many states on the undo stack. */
    static long digest(String script, int states) throws Exception {
        BigInteger h = BigInteger.valueOf(43828);
        List<Long> hashed = new ArrayList<>(of(script));
        hashed.add(0, (long) states);
        for (long v : hashed) {
            h = h.multiply(BigInteger.valueOf(31)).add(BigInteger.valueOf(v));
        }
        return h.longValue(); // the lowest 64 bits: overflow wraps
    }

    private SlackRows twin() throws Exception {
        return Script.run("a snapshot", script);
    }

    private void add(long value) {
        values.add(value);
    }

    private void addWhole() throws Exception {
        SlackRows x = twin();
        for (int what = 0; what <= 11; what++) {
            add(x.whole(what));
        }
    }

    private List<Integer> numbers() throws Exception {
        SlackRows x = twin();
        List<Integer> found = new ArrayList<>();
        int added = x.whole(10);
        for (int n = 0; n < added; n++) {
            try {
                x.node(n, 0);
                found.add(n);
            } catch (IndexOutOfBoundsException e) {
                continue;
            }
        }
        return found;
    }

    private void addNode(int number) throws Exception {
        SlackRows x = twin();
        add(number);
        for (int what = 0; what <= 12; what++) {
            add(x.node(number, what));
        }
        boolean isGroup = x.node(number, 0) == 0;
        for (int r = 0; r <= 3 && isGroup; r++) {
            for (int what = 0; what <= 3; what++) {
                add(x.row(number, r, what));
            }
        }
    }

    private void addCritical() throws Exception {
        SlackRows x = twin();
        for (int i = 0; x.critical(i) != SlackRows.NONE; i++) {
            add(x.critical(i));
        }
        add(x.bestCut());
    }
}
