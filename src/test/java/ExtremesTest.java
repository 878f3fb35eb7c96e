import java.lang.reflect.InvocationTargetException;
import java.lang.reflect.Method;
import java.util.ArrayList;
import java.util.Arrays;
import java.util.List;

/**
 * The greatest and the least int at every argument of every method, and all that stands at its bounds: each answer by
 * a table or by the second program of OracleTest, on an object that is empty, rich, full.
 */
public final class ExtremesTest {
    private static final int FAR = Integer.MAX_VALUE, LOW = Integer.MIN_VALUE;
    private static final Check check = new Check();

    /** Arguments that are right on a rich object, and the answers where an int at its ends is not BAD: place, end, due. */
    private static final String[] CALLS = {
        "feed 32", "end 1", "rule 0", "geyser 0 0", "row 0 0", "alter 0 1 1", "tell 0 1", "set 0 0 1", "open 0 1 0",
        "cut 1", "add 0 0", "drop 1", "hours 1", "runs 1 0", "ahead 0 1 0", "ups 1", "when 0", "whom 0 1 0", "route 1 0",
        "swap 1 0", "bears 0 1", "flow 0 1 1", "kind 0 1 0", "play 1 0", "luck 5 0 1 0", "mean 5 1 0", "see 1 0 1",
        "forget 1", "kinds 0", "nerves 0", "ask 0 0", "season 1 1 0", "keep 0", "back 0", "sheet 0 0 1", "lay 0 0 1",
        "read 0 0 0 1", "count 0",
    };

    /** Bounds of each argument; the same order as the face. */
    private static final String[] BOUNDS = {
        "feed 0 127", "end 0 160", "rule 0 8", "geyser 0 4 0 7", "row 0 12 0 1", "alter 0 3 0 4 0 199", "tell 0 1 0 40",
        "set 0 12 0 1 0 9", "open 0 3 1 60 0 9", "cut 0 4", "add 0 9 0 4", "drop 0 12", "hours 0 100", "runs 0 200 0 4",
        "ahead 0 4 0 200 0 2", "ups 0 200", "when 0 4", "whom 0 12 0 200 0 1", "route 0 4 10 14", "swap 0 200 0 1",
        "bears 0 12 0 200", "flow 0 4 0 200 0 20", "kind 0 4 0 200 0 1", "play 0 4 0 1", "luck 0 10 0 4 0 8 0 1",
        "mean 0 10 0 8 0 1", "see 0 40 0 4 0 1", "forget 0 6", "kinds 0 4", "nerves 0 4", "ask 0 4 0 1",
        "season -9 9 1 200 0 1", "keep 0 1", "back 0 1", "sheet 0 3 0 2 0 40", "lay 0 3 0 40 0 65545",
        "read 0 3 0 2 0 40 0 20", "count 0 5", "text", "fault", "again", "torn",
    };

    public static void main(String[] args) throws Exception {
        endsOfInts();
        if (BOUNDS.length != publicMethods()) {
            throw new IllegalStateException("a method is not told in this test");
        }
        for (int state = 0; state < 3; state++) {
            for (String bounds : BOUNDS) {
                allAtBounds(bounds.split(" "), state);
            }
        }
        check.end();
    }

    private static int publicMethods() {
        int many = 0;
        for (Method m : GeyserNerves.class.getDeclaredMethods()) {
            many += java.lang.reflect.Modifier.isPublic(m.getModifiers()) ? 1 : 0;
        }
        return many;
    }

    // ---- the greatest and the least int

    private static void endsOfInts() {
        check.by("The greatest and the least int at every argument");
        for (String call : CALLS) {
            String[] parts = call.split(" ");
            for (int at = 0; at < parts.length - 1; at++) {
                for (int end : new int[] {LOW, FAR}) {
                    Object[] given = new Object[parts.length - 1];
                    for (int i = 0; i < given.length; i++) {
                        given[i] = i == at ? end : Integer.parseInt(parts[1 + i]);
                    }
                    endsAt(parts[0], at, end, given);
                }
            }
        }
    }

    private static void endsAt(String name, int at, int end, Object[] given) {
        String what = name + Arrays.toString(given);
        if (name.equals("season") && at == 0) {
            // Any seed is right: nothing is refused and nothing is changed.
            long due = end == LOW ? Check.rich().season(0, 1, 0) : Check.rich().season(-1, 1, 0);
            check.keeps(what, Check::rich, x -> call(x, name, given), due);
        } else if (name.equals("lay") && at == 2) {
            // A SHORT keeps the lowest bits: 0, or -1 that add() refuses.
            GeyserNerves x = Check.rich();
            check.due(what, call(x, name, given), 1);
            check.due("read behind " + what, x.read(0, 0, 0, 1), end == LOW ? 1 : -20);
        } else if (name.equals("read") && at == 2) {
            GeyserNerves x = Check.rich();
            check.due(what, call(x, name, given), 0);
            check.due("torn() behind " + what, x.torn(), 2);
        } else if (name.equals("lay") && at == 1) {
            check.keeps(what, Check::rich, x -> call(x, name, given), -12);
        } else if (name.equals("sheet") && at == 2 && end == LOW) {
            check.keeps(what, Check::rich, x -> call(x, name, given), -14);
        } else {
            check.keeps(what, Check::rich, x -> call(x, name, given), -1);
        }
    }

    // ---- all that stands at bounds

    private static void allAtBounds(String[] parts, int state) throws Exception {
        check.by("State " + state);
        int places = (parts.length - 1) / 2;
        List<List<Integer>> values = new ArrayList<>();
        for (int i = 0; i < places; i++) {
            values.add(valuesOf(Integer.parseInt(parts[1 + 2 * i]), Integer.parseInt(parts[2 + 2 * i])));
        }
        int[] at = new int[places];
        for (boolean more = true; more;) {
            Object[] given = new Object[places];
            for (int i = 0; i < places; i++) {
                given[i] = values.get(i).get(at[i]);
            }
            compare(parts[0], given, state);
            more = false;
            for (int i = 0; i < places && !more; i++) {
                at[i] = (at[i] + 1) % values.get(i).size();
                more = at[i] != 0;
            }
        }
    }

    private static List<Integer> valuesOf(int least, int most) {
        List<Integer> all = new ArrayList<>();
        for (int v : new int[] {LOW, -1, 0, 1, 3, least - 1, least, least + 1, most - 1, most, most + 1, FAR}) {
            if (!all.contains(v)) {
                all.add(v);
            }
        }
        return all;
    }

    private static final GeyserNerves[] reals = new GeyserNerves[3];
    private static final OracleTest.Model[] models = new OracleTest.Model[3];

    /** Calls that change nothing share an object; behind one that may have changed it a new one is made. */
    private static void compare(String name, Object[] given, int state) throws Exception {
        if (reals[state] == null) {
            reals[state] = new GeyserNerves();
            models[state] = new OracleTest.Model();
            prepare(reals[state], state);
            prepare(models[state], state);
        }
        String what = name + Arrays.toString(given);
        long got = call(reals[state], name, given);
        check.due(what, got, call(models[state], name, given));
        if (!asksAlone(name)) {
            for (int rule = 0; rule < 9; rule++) {
                check.due("rule(" + rule + ") behind " + what, reals[state].rule(rule), models[state].rule(rule));
            }
            for (int count = 0; count < 6; count++) {
                check.due("count(" + count + ") behind " + what, reals[state].count(count), models[state].count(count));
            }
            check.due("torn() behind " + what, reals[state].torn(), models[state].torn());
            check.due("runs behind " + what, reals[state].runs(9, 3), models[state].runs(9, 3));
            reals[state] = null;
        }
    }

    private static boolean asksAlone(String name) {
        return " rule geyser row runs ahead ups when again whom route swap bears flow kind play luck mean kinds nerves ask"
            .concat(" season torn fault count ").contains(" " + name + " ");
    }

    private static void prepare(Object x, int state) {
        if (state == 0) {
            return;
        }
        for (int g = 0; g < (state == 1 ? 2 : 4); g++) {
            call(x, "open", new Object[] {g, 9 + 5 * g, 7 - 2 * g});
        }
        for (int i = 0; i < (state == 1 ? 3 : 12); i++) {
            call(x, "add", new Object[] {(9 + 4 * i) % 10, i % 5});
        }
        call(x, "keep", new Object[] {0});
        call(x, "hours", new Object[] {5});
        for (int n = 0; n < (state == 1 ? 1 : 6); n++) {
            call(x, "see", new Object[] {n, 1, 0});
        }
        for (int k = 0; k < state + 1; k++) {
            call(x, "sheet", new Object[] {k, k, state == 1 ? 5 : 40});
            call(x, "lay", new Object[] {k, 2, 7});
        }
        if (state == 2) {
            call(x, "keep", new Object[] {1});
            call(x, "forget", new Object[] {5});
            call(x, "cut", new Object[] {3});
            call(x, "open", new Object[] {3, 60, 0});
            call(x, "see", new Object[] {40, 3, 0});
        }
        for (int i = 0; i < (state == 1 ? 7 : 160); i++) {
            call(x, "feed", new Object[] {32});
        }
    }

    private static long call(Object x, String name, Object[] given) {
        Class<?>[] ints = new Class<?>[given.length];
        Arrays.fill(ints, int.class);
        try {
            Method m = x.getClass().getDeclaredMethod(name, ints);
            return ((Number) m.invoke(x, given)).longValue();
        } catch (InvocationTargetException e) {
            throw new IllegalStateException(name + Arrays.toString(given) + " threw", e.getCause());
        } catch (ReflectiveOperationException e) {
            throw new IllegalStateException(e);
        }
    }
}
