import java.util.ArrayDeque;
import java.util.ArrayList;
import java.util.Deque;
import java.util.HashMap;
import java.util.List;
import java.util.Map;

/**
 * The document told once more in another way, to compare with: it keeps every change of a cell,
 * and finds a stale transaction by how often a cell had changed when it was first read.
 */
final class Model {
    private static final class Open {
        final Map<Integer, Integer> changesWhenRead = new HashMap<>();
        final Deque<Map<Integer, Long>> parts = new ArrayDeque<>();

        Map<Integer, Long> sight() {
            Map<Integer, Long> sight = new HashMap<>();
            parts.forEach(sight::putAll);
            return sight;
        }
    }

    private final Map<Integer, List<Long>> history = new HashMap<>();
    private final Map<Integer, Open> opened = new HashMap<>();
    private int doneOnes = 0;
    private int staleOnes = 0;

    Model() {
        for (int k = 0; k < 32; k++) {
            history.put(k, new ArrayList<>(List.of(0L)));
        }
    }

    String begin(int t) {
        if (t < 0 || t > 7) {
            return "IllegalArgumentException";
        }
        if (opened.containsKey(t)) {
            return "IllegalStateException";
        }
        Open one = new Open();
        one.parts.addLast(new HashMap<>());
        opened.put(t, one);
        return "void";
    }

    String read(int t, int k) {
        String refusal = refusal(t, k);
        if (refusal != null) {
            return refusal;
        }
        Open one = opened.get(t);
        if (one.sight().containsKey(k)) {
            return one.sight().get(k).toString();
        }
        if (stale(one)) {
            opened.remove(t);
            staleOnes++;
            return "UnsupportedOperationException";
        }
        one.changesWhenRead.putIfAbsent(k, changes(k));
        return number(k).toString();
    }

    String write(int t, int k, long v) {
        String refusal = refusal(t, k);
        if (refusal != null) {
            return refusal;
        }
        opened.get(t).parts.getLast().put(k, v);
        return "void";
    }

    String save(int t) {
        String refusal = refusal(t, 0);
        if (refusal != null) {
            return refusal;
        }
        Deque<Map<Integer, Long>> parts = opened.get(t).parts;
        if (parts.size() == 5) {
            return "UnsupportedOperationException";
        }
        parts.addLast(new HashMap<>());
        return Integer.toString(parts.size());
    }

    String endPart(int t, boolean kept) {
        String refusal = refusal(t, 0);
        if (refusal != null) {
            return refusal;
        }
        Deque<Map<Integer, Long>> parts = opened.get(t).parts;
        if (parts.size() == 1) {
            return "UnsupportedOperationException";
        }
        Map<Integer, Long> last = parts.removeLast();
        if (kept) {
            parts.getLast().putAll(last);
        }
        return "void";
    }

    String done(int t) {
        String refusal = refusal(t, 0);
        if (refusal != null) {
            return refusal;
        }
        Open one = opened.remove(t);
        if (stale(one)) {
            staleOnes++;
            return "false";
        }
        doneOnes++;
        one.sight().forEach((k, v) -> history.get(k).add(v));
        return "true";
    }

    String leave(int t) {
        String refusal = refusal(t, 0);
        if (refusal != null) {
            return refusal;
        }
        opened.remove(t);
        return "void";
    }

    String set(int k, long v) {
        if (!history.containsKey(k)) {
            return "IndexOutOfBoundsException";
        }
        history.get(k).add(v);
        return "void";
    }

    String cell(int k) {
        return history.containsKey(k) ? number(k).toString() : "IndexOutOfBoundsException";
    }

    String changed(int k) {
        return history.containsKey(k) ? Integer.toString(changes(k)) : "IndexOutOfBoundsException";
    }

    String count(int t, int what) {
        if (what < 0 || what > 3) {
            return "IllegalArgumentException";
        }
        String refusal = refusal(t, 0);
        if (refusal != null) {
            return refusal;
        }
        Open one = opened.get(t);
        int[] counts = {one.changesWhenRead.size(), one.sight().size(), one.parts.size(), stale(one) ? 1 : 0};
        return Integer.toString(counts[what]);
    }

    String all(int what) {
        int[] totals = {opened.size(), doneOnes, staleOnes};
        return what < 0 || what > 2 ? "IllegalArgumentException" : Integer.toString(totals[what]);
    }

    private String refusal(int t, int k) {
        if (t < 0 || t > 7) {
            return "IllegalArgumentException";
        }
        if (!history.containsKey(k)) {
            return "IndexOutOfBoundsException";
        }
        return opened.containsKey(t) ? null : "IllegalStateException";
    }

    private boolean stale(Open one) {
        return one.changesWhenRead.entrySet().stream().anyMatch(e -> changes(e.getKey()) != e.getValue());
    }

    private int changes(int k) {
        return history.get(k).size() - 1;
    }

    private Long number(int k) {
        return history.get(k).get(changes(k));
    }
}
