import java.util.ArrayList;
import java.util.List;
import java.util.Map;
import java.util.TreeMap;

/**
 * All that the face tells of an object: its state, the states that undo brings back, the state of the snapshot, and
 * what neither undo nor snapshots affect. Some of it is told only by changes, so each part is read from an object of
 * its own, and the maker must make them all alike.
 */
final class Whole {
    interface Maker {
        ThunderCartel make();
    }

    private static final int MOST_CHANGES = 8;
    private static final int LONGEST_LINE = 20;

    final Map<String, Object> state;
    /** The states that undo brings back, the latest first. */
    final List<Map<String, Object>> past = new ArrayList<>();
    Map<String, Object> snapshot;
    final Map<String, Object> rest = new TreeMap<>();

    private Whole(Map<String, Object> state) {
        this.state = new TreeMap<>(state);
    }

    static Whole of(Maker maker) {
        ThunderCartel x = maker.make();
        Map<String, Object> rest = rest(x);
        int changes = x.undoCount();
        Whole whole = new Whole(state(x));
        whole.rest.putAll(rest);
        whole.rest.put("text", text(maker.make()));
        whole.rest.put("length of the text", answer(maker.make(), y -> y.feed(' ')));
        for (int undone = 1; undone <= changes; undone++) {
            ThunderCartel y = maker.make();
            for (int i = 0; i < undone; i++) {
                y.undo();
            }
            whole.past.add(state(y));
        }
        ThunderCartel y = maker.make();
        if (!answer(y, ThunderCartel::restoreSnapshot).equals("IllegalStateException")) {
            whole.snapshot = state(y);
        }
        return whole;
    }

    Whole copy() {
        Whole copy = new Whole(state);
        copy.past.addAll(past);
        copy.snapshot = snapshot;
        copy.rest.putAll(rest);
        return copy;
    }

    /** The same, but that a change was made, which has these things of the state answer otherwise. */
    Whole afterChange(Object... namesAndAnswers) {
        Whole after = copy();
        after.past.add(0, state);
        if (after.past.size() > MOST_CHANGES) {
            after.past.remove(MOST_CHANGES);
        }
        put(after.state, namesAndAnswers);
        return after;
    }

    /** The same, but that these things that are no part of the state answer otherwise. */
    Whole with(Object... namesAndAnswers) {
        Whole other = copy();
        put(other.rest, namesAndAnswers);
        return other;
    }

    /** The same, but that another state is the present one, with so many changes before it left. */
    Whole back(Map<String, Object> its, List<Map<String, Object>> left) {
        Whole other = new Whole(its);
        other.past.addAll(left);
        other.snapshot = snapshot;
        other.rest.putAll(rest);
        return other;
    }

    private static void put(Map<String, Object> answers, Object... namesAndAnswers) {
        for (int i = 0; i + 1 < namesAndAnswers.length; i += 2) {
            answers.put((String) namesAndAnswers[i], namesAndAnswers[i + 1]);
        }
    }

    /** What the other one answers otherwise, or an empty text. */
    String differences(Whole other) {
        StringBuilder all = new StringBuilder();
        compare(all, "", state, other.state);
        compare(all, "", rest, other.rest);
        compare(all, "snapshot, ", snapshot, other.snapshot);
        if (past.size() != other.past.size()) {
            all.append("[changes: ").append(past.size()).append(" and ").append(other.past.size()).append(']');
        }
        for (int i = 0; i < Math.min(past.size(), other.past.size()); i++) {
            compare(all, "undone " + (i + 1) + ", ", past.get(i), other.past.get(i));
        }
        return all.toString();
    }

    private static void compare(StringBuilder all, String what, Map<String, Object> one, Map<String, Object> other) {
        if (one == null || other == null) {
            all.append(one == other ? "" : "[" + what + "there is one and there is none]");
            return;
        }
        Map<String, Object> names = new TreeMap<>(one);
        names.putAll(other);
        for (String name : names.keySet()) {
            Object first = one.get(name);
            Object second = other.get(name);
            if (first == null || !first.equals(second)) {
                all.append('[').append(what).append(name).append(": ").append(first);
                all.append(" and ").append(second).append(']');
            }
        }
    }

    /** What the call answers, or the name of the exception that it throws. */
    static Object answer(ThunderCartel x, Check.CallOf call) {
        try {
            return call.answer(x);
        } catch (RuntimeException thrown) {
            return thrown.getClass().getSimpleName();
        }
    }

    /** What neither undo nor snapshots affect, but for the text. */
    private static Map<String, Object> rest(ThunderCartel x) {
        Map<String, Object> rest = new TreeMap<>();
        rest.put("denial", answer(x, ThunderCartel::denial));
        rest.put("detail", answer(x, ThunderCartel::denialDetail));
        rest.put("cause", answer(x, ThunderCartel::denialCause));
        rest.put("fault", answer(x, ThunderCartel::faultPosition));
        StringBuilder line = new StringBuilder();
        for (int i = 0; i < LONGEST_LINE; i++) {
            int index = i;
            Object sign = answer(x, y -> y.lineCharacter(index));
            line.append(sign instanceof Character ? sign : "");
        }
        rest.put("line", line.toString());
        return rest;
    }

    /** What the text buffer holds is told by executing it: the answer, and the position of a fault or the seed. */
    private static String text(ThunderCartel x) {
        Object executed = answer(x, ThunderCartel::execute);
        if (executed.equals("IllegalArgumentException")) {
            return "fault at " + x.faultPosition();
        }
        return executed + ", seed " + x.setSeed(0);
    }

    private static Map<String, Object> state(ThunderCartel x) {
        Map<String, Object> state = new TreeMap<>();
        int members = x.memberCount();
        state.put("members", members);
        for (int i = 0; i < members; i++) {
            state.put("capacity " + i, x.capacity(i));
            state.put("votes " + i, x.votes(i));
            state.put("quota " + i, x.quota(i));
            state.put("sales " + i, x.sales(i));
            state.put("standing " + i, Check.standing(x, i));
            for (int j = 0; j < i; j++) {
                state.put("link " + j + " " + i, x.areLinked(i, j));
            }
        }
        state.put("month", x.month());
        state.put("sold", x.soldTotal());
        state.put("within", x.withinTotal());
        state.put("fined", x.finedTotal());
        state.put("fines", x.fines());
        // from here on the object is another one: a change tells what was there before it
        state.put("seed", x.setSeed(0));
        state.put("rule", answer(x, y -> y.setRule(0)).equals(1) ? 1 : 0);
        state.put("threshold", x.setThreshold(98));
        return state;
    }
}
