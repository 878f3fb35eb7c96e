import java.lang.reflect.Method;
import java.math.BigInteger;
import java.util.ArrayList;
import java.util.Arrays;
import java.util.List;
import java.util.Random;
import java.util.regex.Matcher;
import java.util.regex.Pattern;

/** Runs of calls by a fixed seed, on GeyserNerves and on a second, slower program of the same document. */
public final class OracleTest {
    private static final int RUNS = 1500;
    private static final int CALLS = 500;
    private static int wrong = 0;

    public static void main(String[] args) throws Exception {
        Method[] faces = methodsOf(GeyserNerves.class);
        for (int run = 0; run < RUNS && wrong < 10; run++) {
            runOnce(faces, new Random(1000L + run), run);
        }
        System.out.println(wrong == 0 ? "both programs answer alike" : wrong + " answers differ");
        if (wrong != 0) {
            System.exit(1);
        }
    }

    private static Method[] methodsOf(Class<?> c) {
        List<Method> found = new ArrayList<>();
        for (Method m : c.getDeclaredMethods()) {
            if (java.lang.reflect.Modifier.isPublic(m.getModifiers())) {
                found.add(m);
            }
        }
        found.sort((a, b) -> a.getName().compareTo(b.getName()));
        return found.toArray(new Method[0]);
    }

    private static void runOnce(Method[] faces, Random dice, int run) throws Exception {
        GeyserNerves real = new GeyserNerves();
        Model model = new Model();
        StringBuilder story = new StringBuilder();
        int calls = 0;
        boolean wild = run % 5 == 4;
        while (calls < CALLS) {
            if (dice.nextInt(90) == 0 || calls == 0 && dice.nextInt(3) > 0) {
                // Bytes that came by chance would spoil nearly every text.
                if (dice.nextInt(8) > 0) {
                    call(faces, real, model, "end", new Object[] {0}, run, story);
                }
                String text = Texts.make(dice);
                for (int i = 0; i < text.length(); i++) {
                    call(faces, real, model, "feed", new Object[] {(int) text.charAt(i)}, run, story);
                    calls++;
                }
                call(faces, real, model, "text", new Object[0], run, story);
                call(faces, real, model, "fault", new Object[0], run, story);
                calls += 2;
            }
            Method m = faces[dice.nextInt(faces.length)];
            if (m.getName().equals("text") && dice.nextInt(4) > 0 || m.getName().equals("cut") && dice.nextInt(3) > 0
                    || m.getName().equals("drop") && dice.nextInt(3) > 0) {
                continue;
            }
            Object[] given = new Object[m.getParameterCount()];
            for (int i = 0; i < given.length; i++) {
                given[i] = Args.make(dice, m.getName(), i, wild);
            }
            call(faces, real, model, m.getName(), given, run, story);
            calls++;
        }
    }

    private static void call(Method[] faces, GeyserNerves real, Model model, String name, Object[] given, int run,
            StringBuilder story) throws Exception {
        Method face = null;
        for (Method m : faces) {
            if (m.getName().equals(name)) {
                face = m;
            }
        }
        Method twin = Model.class.getDeclaredMethod(name, face.getParameterTypes());
        long got = ((Number) face.invoke(real, given)).longValue();
        long due = ((Number) twin.invoke(model, given)).longValue();
        story.append(name).append(Arrays.toString(given)).append(" = ").append(due).append('\n');
        if (got != due) {
            wrong++;
            System.out.println("run " + run + ": " + name + Arrays.toString(given) + " answered " + got + ", due is "
                    + due);
            if (wrong == 1) {
                System.out.println(story);
            }
        }
    }

    /** Arguments that fit the call most of the time, by the document's bounds. */
    static final class Args {
        private static final String[] BOUNDS = {
            "feed 0 127", "end 0 100", "rule 0 8", "geyser 0 3 0 7", "row 0 11 0 1", "alter 0 3 0 4 0 25", "tell 0 1 0 40",
            "set 0 11 0 1 0 9", "open 0 3 1 60 0 9", "cut 0 4", "add 0 9 0 4", "drop 0 12", "hours 0 100",
            "runs 0 200 0 4", "ahead 0 3 0 200 0 2", "ups 0 200", "when 0 3", "whom 0 5 0 200 0 1", "route 0 4 0 14",
            "swap 0 200 0 1", "bears 0 5 0 200", "flow 0 3 0 200 0 20", "kind 0 3 0 200 0 1", "play 0 4 0 1",
            "luck 0 10 0 3 0 8 0 1", "mean 0 10 0 8 0 1", "see 0 40 0 3 0 1", "forget 0 6", "kinds 0 3", "nerves 0 3",
            "ask 0 3 0 1", "season -9 9 1 200 0 1", "keep 0 1", "back 0 1", "sheet 0 3 0 2 -1 40", "lay 0 3 0 39 0 9",
            "read 0 3 0 2 0 39 0 20", "count 0 5",
        };

        static Integer make(Random dice, String name, int i, boolean wild) {
            int[] far = {-1, Integer.MIN_VALUE, Integer.MAX_VALUE, 1000, -2, 65536, 65539, 41, 201, 21};
            if (dice.nextInt(wild ? 6 : 40) == 0) {
                return far[dice.nextInt(far.length)];
            }
            for (String bound : BOUNDS) {
                String[] parts = bound.split(" ");
                if (parts[0].equals(name)) {
                    int least = Integer.parseInt(parts[1 + 2 * i]);
                    int most = Integer.parseInt(parts[2 + 2 * i]);
                    return fit(dice, name, i, least, most);
                }
            }
            return 0;
        }

        private static Integer fit(Random dice, String name, int i, int least, int most) {
            boolean few = dice.nextInt(3) > 0;
            if (most == 200 && few) {
                most = 30;
            }
            if (name.equals("read") && i == 2 && few || name.equals("lay") && i == 1 && few) {
                most = 7;
            }
            if (name.equals("read") && i == 3 && few) {
                most = 4;
            }
            if (name.equals("lay") && i == 2 && few) {
                most = 4;
            }
            if (name.equals("route") && i == 1) {
                return few ? 10 + dice.nextInt(4) : dice.nextInt(15);
            }
            if (name.equals("hours") && few) {
                most = 6;
            }
            if (name.equals("season") && i == 0) {
                return few ? dice.nextInt() : dice.nextInt(19) - 9;
            }
            // One in twenty stands just outside.
            if (dice.nextInt(20) == 0) {
                return dice.nextBoolean() ? least - 1 : most + 1;
            }
            return least + dice.nextInt(most - least + 1);
        }
    }

    /** Texts, most of them right or with one fault. */
    static final class Texts {
        static String make(Random dice) {
            StringBuilder b = new StringBuilder();
            int geysers = dice.nextInt(12) == 0 ? 5 : 1 + dice.nextInt(4);
            int rows = dice.nextInt(12) == 0 ? 13 : dice.nextInt(6);
            List<String> lines = new ArrayList<>();
            String[] kinds = {"plain", "shy", "sulky", "faint"};
            for (int i = 0; i < geysers; i++) {
                lines.add(kinds[dice.nextInt(4)] + " " + (1 + dice.nextInt(60)) + " " + dice.nextInt(10) + ";");
            }
            for (int i = 0; i < rows; i++) {
                lines.add("hour " + dice.nextInt(10) + " " + dice.nextInt(5) + ";");
            }
            int rules = dice.nextInt(8) == 0 ? 3 : dice.nextInt(3);
            for (int i = 0; i < rules; i++) {
                lines.add((dice.nextBoolean() ? "flow " : "calm ") + dice.nextInt(21) + ";");
            }
            java.util.Collections.shuffle(lines, dice);
            for (String line : lines) {
                b.append(dice.nextInt(6) == 0 ? "  " : "").append(line).append(dice.nextInt(6) == 0 ? " " : "");
            }
            if (dice.nextInt(3) == 0 && b.length() > 0) {
                spoil(b, dice);
            }
            return b.length() > 160 ? b.substring(0, 160) : b.toString();
        }

        private static void spoil(StringBuilder b, Random dice) {
            int at = dice.nextInt(b.length());
            String signs = "az059; A\t.~`{/:@[";
            char c = signs.charAt(dice.nextInt(signs.length()));
            int how = dice.nextInt(4);
            if (how == 0) {
                b.setCharAt(at, c);
            } else if (how == 1) {
                b.insert(at, c);
            } else if (how == 2) {
                b.deleteCharAt(at);
            } else {
                b.setLength(at);
            }
        }
    }

    /** The second program: plain lists, recursion, real casts and the machine's own exceptions. */
    static final class Model {
        static final int BAD = -1, STATE = -2, FULL = -3, NONE = -4;

        static final class World {
            List<int[]> geysers = new ArrayList<>();
            List<int[]> rows = new ArrayList<>();
            int flow = 8, calm = 4, hour = 0;

            World copy() {
                World w = new World();
                for (int[] g : geysers) {
                    w.geysers.add(g.clone());
                }
                for (int[] r : rows) {
                    w.rows.add(r.clone());
                }
                w.flow = flow;
                w.calm = calm;
                w.hour = hour;
                return w;
            }

            int[] rowNow() {
                return rows.isEmpty() ? new int[] {0, 4} : rows.get(hour % rows.size());
            }

            int share(int g) {
                int share = 0;
                for (int unit = 0; unit < flow; unit++) {
                    if (unit % geysers.size() == g) {
                        share++;
                    }
                }
                return share;
            }

            static int minds(int kind, int nerve, int watchers) {
                if (kind == 0) {
                    return watchers > nerve ? watchers - nerve : 0;
                }
                if (kind == 1) {
                    return minds(0, nerve, watchers) * 2;
                }
                if (kind == 2) {
                    return minds(1, nerve, watchers) + (watchers > 0 ? 1 : 0);
                }
                return minds(2, nerve, watchers) + (watchers == 9 ? 5 : 0);
            }

            static int fades(int kind) {
                return new int[] {2, 1, 0, 0}[kind];
            }

            List<Integer> pass(int watchers, int actor) {
                List<Integer> up = new ArrayList<>();
                for (int g = 0; g < geysers.size(); g++) {
                    int[] it = geysers.get(g);
                    it[3] += share(g);
                    if (it[3] > 199) {
                        it[3] = 199;
                    }
                    it[4] += minds(it[0], it[2], watchers);
                    if (it[4] > 20) {
                        it[4] = 20;
                    }
                    if (actor == g) {
                        it[4] -= calm;
                    }
                    if (it[4] < 0) {
                        it[4] = 0;
                    }
                    if (watchers == 0) {
                        it[4] -= fades(it[0]);
                    }
                    if (it[4] < 0) {
                        it[4] = 0;
                    }
                    if (it[3] >= it[1] + it[4]) {
                        it[5]++;
                        it[3] = 0;
                        it[4] = 0;
                        up.add(g);
                    }
                }
                hour++;
                return up;
            }

            List<Integer> pass() {
                int[] row = rowNow();
                return pass(row[0], row[1]);
            }

            /** Of n hours, by order, which geysers go up. */
            List<List<Integer>> future(int n) {
                World w = copy();
                List<List<Integer>> all = new ArrayList<>();
                for (int i = 0; i < n; i++) {
                    all.add(w.pass());
                }
                return all;
            }

            int total(int n) {
                return future(n).stream().mapToInt(List::size).sum();
            }

            int of(int g, int n) {
                return (int) future(n).stream().filter(up -> up.contains(g)).count();
            }

            World after(int n) {
                World w = copy();
                for (int i = 0; i < n; i++) {
                    w.pass();
                }
                return w;
            }

            int pleased(int n) {
                World w = copy();
                int sum = 0;
                for (int i = 0; i < n; i++) {
                    int watchers = w.rowNow()[0];
                    sum += w.pass().isEmpty() ? 0 : watchers;
                }
                return sum;
            }
        }

        World now = new World();
        final World[] images = new World[2];
        StringBuilder tape = new StringBuilder();
        List<int[]> seen = new ArrayList<>();
        final Object[] sheets = new Object[4];
        int fault = 0;
        int torn = 0;

        private static boolean out(int v, int least, int most) {
            return v < least || v > most;
        }

        private boolean noGeyser(int g) {
            return out(g, 0, now.geysers.size() - 1);
        }

        private boolean noRow(int i) {
            return out(i, 0, now.rows.size() - 1);
        }

        int feed(int c) {
            if (out(c, 0, 127)) {
                return BAD;
            }
            if (tape.length() == 160) {
                return FULL;
            }
            return tape.append((char) c).length();
        }

        int end(int n) {
            if (out(n, 0, tape.length())) {
                return BAD;
            }
            int had = tape.length();
            tape.setLength(n);
            return had;
        }

        /** A fault that was met, at its place. */
        static final class Met extends Exception {
            private static final long serialVersionUID = 1L;
            final int what, place;

            Met(int what, int place) {
                this.what = what;
                this.place = place;
            }
        }

        private static final Pattern TOKEN = Pattern.compile("\\G *([a-z]+|[0-9]+|;|\\z|[^ ])", Pattern.DOTALL);
        private String token;
        private int place;

        private void next(Matcher m) throws Met {
            if (!m.find()) {
                throw new IllegalStateException("no token at all");
            }
            token = m.group(1);
            place = m.start(1);
            if (!token.matches("(?s)[a-z]+|[0-9]{1,2}|;|")) {
                throw new Met(1, place);
            }
        }

        private int number(Matcher m, int least, int most) throws Met {
            next(m);
            if (!token.matches("[0-9]+")) {
                throw new Met(2, place);
            }
            int v = Integer.parseInt(token);
            if (out(v, least, most)) {
                throw new Met(3, place);
            }
            return v;
        }

        private int lines(String text, World w) throws Met {
            Matcher m = TOKEN.matcher(text);
            List<String> kinds = List.of("plain", "shy", "sulky", "faint");
            List<String> told = new ArrayList<>();
            int lines = 0;
            for (next(m); !token.isEmpty(); next(m)) {
                if (kinds.contains(token)) {
                    if (w.geysers.size() == 4) {
                        throw new Met(5, place);
                    }
                    int kind = kinds.indexOf(token);
                    w.geysers.add(new int[] {kind, number(m, 1, 60), number(m, 0, 9), 0, 0, 0});
                } else if (token.equals("hour")) {
                    if (w.rows.size() == 12) {
                        throw new Met(5, place);
                    }
                    w.rows.add(new int[] {number(m, 0, 9), number(m, 0, 4)});
                } else if (token.equals("flow") || token.equals("calm")) {
                    if (told.contains(token)) {
                        throw new Met(4, place);
                    }
                    told.add(token);
                    if (token.equals("flow")) {
                        w.flow = number(m, 0, 40);
                    } else {
                        w.calm = number(m, 0, 20);
                    }
                } else {
                    throw new Met(2, place);
                }
                next(m);
                if (!token.equals(";")) {
                    throw new Met(2, place);
                }
                lines++;
            }
            return lines;
        }

        int text() {
            String text = tape.toString();
            tape = new StringBuilder();
            World w = new World();
            try {
                int lines = lines(text, w);
                fault = 0;
                now = w;
                seen = new ArrayList<>();
                Arrays.fill(images, null);
                return lines;
            } catch (Met met) {
                fault = met.what;
                return -10 - met.place;
            }
        }

        int fault() {
            return fault;
        }

        int rule(int what) {
            int[] row = now.rowNow();
            if (out(what, 0, 8)) {
                return BAD;
            }
            int went = now.geysers.stream().mapToInt(g -> g[5]).sum();
            int heats = now.geysers.stream().mapToInt(g -> g[3]).sum();
            return new int[] {now.geysers.size(), now.rows.size(), now.hour, now.flow, now.calm, went, row[0],
                row[1] == 4 ? NONE : row[1], heats}[what];
        }

        int geyser(int g, int what) {
            if (noGeyser(g) || out(what, 0, 7)) {
                return BAD;
            }
            int[] it = now.geysers.get(g);
            return what < 6 ? it[what] : what == 6 ? now.share(g) : World.minds(it[0], it[2], now.rowNow()[0]);
        }

        int row(int i, int what) {
            return noRow(i) || out(what, 0, 1) ? BAD : now.rows.get(i)[what];
        }

        int alter(int g, int what, int v) {
            int[] least = {0, 1, 0, 0, 0};
            int[] most = {3, 60, 9, 199, 20};
            if (noGeyser(g) || out(what, 0, 4) || out(v, least[what], most[what])) {
                return BAD;
            }
            int was = now.geysers.get(g)[what];
            now.geysers.get(g)[what] = v;
            return was;
        }

        int tell(int what, int v) {
            if (out(what, 0, 1) || out(v, 0, what == 0 ? 40 : 20)) {
                return BAD;
            }
            int was = what == 0 ? now.flow : now.calm;
            if (what == 0) {
                now.flow = v;
            } else {
                now.calm = v;
            }
            return was;
        }

        int set(int i, int what, int v) {
            if (noRow(i) || out(what, 0, 1) || out(v, 0, what == 0 ? 9 : 4)) {
                return BAD;
            }
            int was = now.rows.get(i)[what];
            now.rows.get(i)[what] = v;
            return was;
        }

        int open(int kind, int need, int nerve) {
            if (out(kind, 0, 3) || out(need, 1, 60) || out(nerve, 0, 9)) {
                return BAD;
            }
            if (now.geysers.size() == 4) {
                return FULL;
            }
            now.geysers.add(new int[] {kind, need, nerve, 0, 0, 0});
            return now.geysers.size();
        }

        private static int shorten(List<int[]> list, int n) {
            int had = list.size();
            if (out(n, 0, had)) {
                return BAD;
            }
            list.subList(n, had).clear();
            return had;
        }

        int cut(int n) {
            return shorten(now.geysers, n);
        }

        int add(int watchers, int whom) {
            return addTo(now.rows, watchers, whom);
        }

        private static int addTo(List<int[]> rows, long watchers, long whom) {
            if (watchers < 0 || watchers > 9 || whom < 0 || whom > 4) {
                return BAD;
            }
            if (rows.size() == 12) {
                return FULL;
            }
            rows.add(new int[] {(int) watchers, (int) whom});
            return rows.size();
        }

        int drop(int n) {
            return shorten(now.rows, n);
        }

        int hours(int n) {
            if (out(n, 0, 100)) {
                return BAD;
            }
            if (now.hour + n > 9999) {
                return FULL;
            }
            int ups = now.total(n);
            now = now.after(n);
            return ups;
        }

        int runs(int n, int what) {
            if (out(n, 0, 200) || out(what, 0, 4)) {
                return BAD;
            }
            if (what == 0) {
                return now.total(n);
            }
            if (what == 1) {
                return now.pleased(n);
            }
            if (what == 2) {
                int all = 0;
                for (int i = 0; i < n && !now.rows.isEmpty(); i++) {
                    all += now.rows.get((now.hour + i) % now.rows.size())[0];
                }
                return all - now.pleased(n);
            }
            if (what == 3) {
                return now.after(n).geysers.stream().mapToInt(g -> g[4]).sum();
            }
            int hottest = 0;
            for (int i = 0; i <= n; i++) {
                for (int[] g : now.after(i).geysers) {
                    hottest = Math.max(hottest, g[3]);
                }
            }
            return hottest;
        }

        int ahead(int g, int n, int what) {
            if (noGeyser(g) || out(n, 0, 200) || out(what, 0, 2)) {
                return BAD;
            }
            return what == 2 ? now.of(g, n) : now.after(n).geysers.get(g)[3 + what];
        }

        int ups(int n) {
            if (out(n, 0, 200)) {
                return BAD;
            }
            int bits = 0;
            for (int g : now.future(n + 1).get(n)) {
                bits += 1 << g;
            }
            return bits;
        }

        int when(int g) {
            if (noGeyser(g)) {
                return BAD;
            }
            List<List<Integer>> all = now.future(201);
            for (int n = 0; n < 201; n++) {
                if (all.get(n).contains(g)) {
                    return n;
                }
            }
            return NONE;
        }

        private static String stand(World w) {
            StringBuilder b = new StringBuilder();
            for (int[] g : w.geysers) {
                b.append(g[3]).append(',').append(g[4]).append(' ');
            }
            return b.append(w.rows.isEmpty() ? 0 : w.hour % w.rows.size()).toString();
        }

        int again() {
            World w = now.copy();
            String first = stand(w);
            for (int n = 1; n <= 200; n++) {
                w.pass();
                if (stand(w).equals(first)) {
                    return n;
                }
            }
            return NONE;
        }

        private List<Integer> choices() {
            List<Integer> all = new ArrayList<>();
            for (int g = 0; g < now.geysers.size(); g++) {
                all.add(g);
            }
            all.add(4);
            return all;
        }

        int whom(int i, int n, int what) {
            if (noRow(i) || out(n, 0, 200) || out(what, 0, 1)) {
                return BAD;
            }
            int most = -1, best = -1;
            for (int c : choices()) {
                World w = now.copy();
                w.rows.get(i)[1] = c;
                if (w.total(n) > most) {
                    most = w.total(n);
                    best = c;
                }
            }
            return what == 0 ? best : most;
        }

        /** How often, and behind it with whom: the best from here on. */
        private List<Integer> bestRoute(World w, int n) {
            List<Integer> best = null;
            if (n == 0) {
                return List.of(0);
            }
            for (int c : choices()) {
                World then = w.copy();
                int ups = then.pass(then.rowNow()[0], c).size();
                List<Integer> rest = bestRoute(then, n - 1);
                if (best == null || ups + rest.get(0) > best.get(0)) {
                    best = new ArrayList<>(rest);
                    best.set(0, ups + rest.get(0));
                    best.add(1, c);
                }
            }
            return best;
        }

        int route(int n, int what) {
            if (out(n, 0, 4) || what != 0 && out(what, 10, 10 + n - 1)) {
                return BAD;
            }
            List<Integer> best = bestRoute(now, n);
            return what == 0 ? best.get(0) : best.get(1 + what - 10);
        }

        int swap(int n, int what) {
            if (out(n, 0, 200) || out(what, 0, 1)) {
                return BAD;
            }
            int best = NONE, most = now.pleased(n);
            for (int pair = 1; pair < 1200; pair++) {
                int i = pair / 100, j = pair % 100;
                if (i < j && j < now.rows.size()) {
                    World w = now.copy();
                    java.util.Collections.swap(w.rows, i, j);
                    if (w.pleased(n) > most) {
                        most = w.pleased(n);
                        best = pair;
                    }
                }
            }
            return best == NONE ? NONE : what == 0 ? best : most;
        }

        int bears(int i, int n) {
            if (noRow(i) || out(n, 0, 200)) {
                return BAD;
            }
            World w = now.copy();
            w.rows.get(i)[0] = 0;
            int without = w.total(n);
            for (int many = 9; many > 0; many--) {
                w.rows.get(i)[0] = many;
                if (w.total(n) >= without) {
                    return many;
                }
            }
            return 0;
        }

        int flow(int g, int n, int m) {
            if (noGeyser(g) || out(n, 0, 200) || out(m, 0, 20)) {
                return BAD;
            }
            World w = now.copy();
            for (w.flow = 0; w.flow <= 40; w.flow++) {
                if (w.of(g, n) >= m) {
                    return w.flow;
                }
            }
            return NONE;
        }

        int kind(int g, int n, int what) {
            if (noGeyser(g) || out(n, 0, 200) || out(what, 0, 1)) {
                return BAD;
            }
            int most = 0, best = 0;
            World w = now.copy();
            for (int kind = 3; kind >= 0; kind--) {
                w.geysers.get(g)[0] = kind;
                if (w.of(g, n) >= most) {
                    most = w.of(g, n);
                    best = kind;
                }
            }
            return what == 0 ? best : most;
        }

        private int crowd(World w, int c, int n) {
            int least = Integer.MAX_VALUE;
            for (int watchers : new int[] {0, 9}) {
                World then = w.copy();
                int ups = then.pass(watchers, c).size();
                least = Math.min(least, ups + actor(then, n - 1));
            }
            return least;
        }

        private int actor(World w, int n) {
            int most = 0;
            if (n > 0) {
                for (int c : choices()) {
                    most = Math.max(most, crowd(w, c, n));
                }
            }
            return most;
        }

        int play(int n, int what) {
            if (out(n, 0, 4) || out(what, 0, 1)) {
                return BAD;
            }
            int most = actor(now, n);
            if (what == 0) {
                return most;
            }
            for (int c : choices()) {
                if (n > 0 && crowd(now, c, n) == most) {
                    return c;
                }
            }
            return NONE;
        }

        private BigInteger odds(World w, int v, int n, int g) {
            BigInteger sum = BigInteger.ZERO;
            if (n == 0) {
                return sum;
            }
            for (int nobody = 0; nobody < 2; nobody++) {
                World then = w.copy();
                int[] row = then.rowNow();
                List<Integer> up = then.pass(nobody == 1 ? 0 : row[0], row[1]);
                BigInteger rest = BigInteger.TEN.pow(n - 1);
                BigInteger worth;
                if (g < 0) {
                    worth = rest.multiply(BigInteger.valueOf(up.size())).add(odds(then, v, n - 1, g));
                } else {
                    worth = up.contains(g) ? rest : odds(then, v, n - 1, g);
                }
                sum = sum.add(worth.multiply(BigInteger.valueOf(nobody == 1 ? v : 10 - v)));
            }
            return sum;
        }

        private long part(BigInteger above, int n, int what) {
            BigInteger below = BigInteger.TEN.pow(n);
            return (what == 0 ? above : below).divide(above.gcd(below)).longValueExact();
        }

        long luck(int v, int g, int n, int what) {
            if (out(v, 0, 10) || noGeyser(g) || out(n, 0, 8) || out(what, 0, 1)) {
                return BAD;
            }
            return part(odds(now, v, n, g), n, what);
        }

        long mean(int v, int n, int what) {
            if (out(v, 0, 10) || out(n, 0, 8) || out(what, 0, 1)) {
                return BAD;
            }
            return part(odds(now, v, n, -1), n, what);
        }

        int see(int n, int g, int v) {
            if (out(n, 0, 40) || noGeyser(g) || out(v, 0, 1)) {
                return BAD;
            }
            if (seen.size() == 6) {
                return FULL;
            }
            seen.add(new int[] {n, g, v});
            return seen.size();
        }

        int forget(int n) {
            return shorten(seen, n);
        }

        /** Values of a part of a geyser by which all is as seen, and one thing more. */
        private int fitting(int g, int part, int most, int[] more) {
            int bits = 0;
            for (int v = 0; v <= most; v++) {
                World w = now.copy();
                w.geysers.get(g)[part] = v;
                List<List<Integer>> all = w.future(41);
                boolean fits = more == null || all.get(more[0]).contains(g) == (more[1] == 1);
                for (int[] s : seen) {
                    fits &= all.get(s[0]).contains(s[1]) == (s[2] == 1);
                }
                bits += fits ? 1 << v : 0;
            }
            return bits;
        }

        int kinds(int g) {
            return noGeyser(g) ? BAD : fitting(g, 0, 3, null);
        }

        int nerves(int g) {
            return noGeyser(g) ? BAD : fitting(g, 2, 9, null);
        }

        int ask(int g, int what) {
            if (noGeyser(g) || out(what, 0, 1)) {
                return BAD;
            }
            int fewest = Integer.bitCount(nerves(g)), best = NONE;
            for (int n = 0; n <= 40; n++) {
                int yes = Integer.bitCount(fitting(g, 2, 9, new int[] {n, 1}));
                int no = Integer.bitCount(fitting(g, 2, 9, new int[] {n, 0}));
                if (Math.max(yes, no) < fewest) {
                    fewest = Math.max(yes, no);
                    best = n;
                }
            }
            return best == NONE ? NONE : what == 0 ? best : fewest;
        }

        int season(int seed, int n, int what) {
            if (out(n, 1, 200) || out(what, 0, 1)) {
                return BAD;
            }
            if (now.geysers.isEmpty()) {
                return STATE;
            }
            World w = now.copy();
            BigInteger grown = BigInteger.valueOf(seed);
            int ups = 0;
            for (int i = 0; i < n; i++) {
                grown = grown.multiply(BigInteger.valueOf(1103515245L)).add(BigInteger.valueOf(12345L));
                int got = grown.shiftRight(16).mod(BigInteger.valueOf(32768)).intValue();
                ups += w.pass(got % 10, w.rowNow()[1]).size();
                grown = grown.mod(BigInteger.ONE.shiftLeft(40));
            }
            return what == 0 ? ups : w.geysers.stream().mapToInt(g -> g[4]).sum();
        }

        int keep(int k) {
            if (out(k, 0, 1)) {
                return BAD;
            }
            int was = images[k] == null ? 0 : 1;
            images[k] = now.copy();
            return was;
        }

        int back(int k) {
            if (out(k, 0, 1)) {
                return BAD;
            }
            if (images[k] == null) {
                return STATE;
            }
            now = images[k].copy();
            return now.hour;
        }

        int sheet(int k, int lane, int n) {
            if (out(k, 0, 3) || out(lane, 0, 2) || n > 40) {
                return BAD;
            }
            try {
                sheets[k] = lane == 0 ? new short[n] : lane == 1 ? new int[n] : (Object) new long[n];
                return 1;
            } catch (NegativeArraySizeException e) {
                return -14;
            }
        }

        int lay(int k, int i, int v) {
            if (out(k, 0, 3)) {
                return BAD;
            }
            if (sheets[k] == null) {
                return -11;
            }
            try {
                if (sheets[k] instanceof short[]) {
                    ((short[]) sheets[k])[i] = (short) v;
                } else if (sheets[k] instanceof int[]) {
                    ((int[]) sheets[k])[i] = v;
                } else {
                    ((long[]) sheets[k])[i] = v;
                }
                return 1;
            } catch (ArrayIndexOutOfBoundsException e) {
                return -12;
            }
        }

        private long cell(int k, int lane, int i) {
            return lane == 0 ? ((short[]) sheets[k])[i] : lane == 1 ? ((int[]) sheets[k])[i] : ((long[]) sheets[k])[i];
        }

        int read(int k, int lane, int f, int n) {
            if (out(k, 0, 3) || out(lane, 0, 2) || out(n, 0, 20)) {
                return BAD;
            }
            List<int[]> rows = new ArrayList<>(now.rows);
            int found = 0;
            try {
                for (int i = 0; i < n; i++) {
                    long watchers = cell(k, lane, f + 2 * i);
                    long whom = cell(k, lane, f + 2 * i + 1);
                    if (addTo(rows, watchers, whom) < 0) {
                        return -20 - i;
                    }
                }
            } catch (NullPointerException e) {
                found = 1;
            } catch (ArrayIndexOutOfBoundsException e) {
                found = 2;
            } catch (ClassCastException e) {
                found = 3;
            }
            int came = rows.size() - now.rows.size();
            now.rows = rows;
            torn = found;
            return came;
        }

        int torn() {
            return torn;
        }

        int count(int what) {
            switch (what) {
                case 0: return seen.size();
                case 1: return (images[0] == null ? 0 : 1) + (images[1] == null ? 0 : 1);
                case 2: return tape.length();
                case 3: return sheets[0] == null ? NONE : java.lang.reflect.Array.getLength(sheets[0]);
                case 4: return now.geysers.stream().mapToInt(g -> g[1]).sum();
                case 5: return now.rows.stream().mapToInt(r -> r[0]).sum();
                default: return BAD;
            }
        }
    }
}
