public final class GeyserNerves {
    public static final int BAD = -1, STATE = -2, FULL = -3, NONE = -4;

    private static final int MOST_GEYSERS = 4, MOST_ROWS = 12, MOST_IMAGES = 2, MOST_SHEETS = 4;
    private static final int PLAIN = 0, SHY = 1, SULKY = 2, FAINT = 3;
    private static final int KIND = 0, NEED = 1, NERVE = 2, HEAT = 3, FRET = 4, WENT = 5;
    private static final int MOST_NEED = 60, MOST_NERVE = 9, MOST_HEAT = 199, MOST_FRET = 20;
    private static final int MOST_FLOW = 40, MOST_CALM = 20, MOST_WATCHERS = 9, NOBODY = 4;
    private static final int FIRST_FLOW = 8, FIRST_CALM = 4, HOURS_END = 10000;
    private static final int MOST_AHEAD = 200, MOST_AT_ONCE = 100, MOST_TURNS = 4, MOST_ODDS = 8;
    private static final int MOST_TAPE = 160, MOST_CELLS = 40, MOST_READ = 20;
    private static final int MOST_SEEN = 6, LAST_SEEN_HOUR = 40;
    private static final int NO_TOKEN = 1, OUT_OF_PLACE = 2, OUT_OF_BOUNDS = 3, TWICE = 4, TOO_MANY = 5;
    private static final int NULL = 1, INDEX = 2, CAST = 3, SIZE = 4;

    private final Ground now = new Ground();
    // What is asked by way of trial runs on these, never on the ground itself.
    private final Ground trial = new Ground();
    private final Ground[] levels = new Ground[MOST_TURNS + 1];
    private final Ground[] images = new Ground[MOST_IMAGES];
    private final boolean[] kept = new boolean[MOST_IMAGES];
    private final Reader reader = new Reader();
    private final Tape tape = reader.from;
    private final Seen seen = new Seen();
    private final int[] upsByHour = new int[LAST_SEEN_HOUR + 1];
    private final long[] hoursByNerve = new long[MOST_NERVE + 1];
    private final Sheet[] sheets = new Sheet[MOST_SHEETS];
    private int latestFault;
    private int latestTorn;

    public GeyserNerves() {
        for (int i = 0; i < levels.length; i++) {
            levels[i] = new Ground();
        }
        for (int i = 0; i < images.length; i++) {
            images[i] = new Ground();
        }
        for (int i = 0; i < sheets.length; i++) {
            sheets[i] = new Sheet();
        }
    }

    // ---- the text, what there is

    public int feed(int c) {
        if (!within(c, 0, 127)) {
            return BAD;
        }
        return tape.take(c) ? tape.length : FULL;
    }

    public int end(int n) {
        if (!within(n, 0, tape.length)) {
            return BAD;
        }
        int had = tape.length;
        tape.length = n;
        return had;
    }

    public int text() {
        int lines = reader.takeAll(trial);
        tape.length = 0;
        latestFault = reader.fault;
        if (latestFault != 0) {
            return -10 - reader.place;
        }
        now.become(trial);
        seen.many = 0;
        for (int k = 0; k < kept.length; k++) {
            kept[k] = false;
        }
        return lines;
    }

    public int fault() {
        return latestFault;
    }

    public int rule(int what) {
        switch (what) {
            case 0: return now.ventCount;
            case 1: return now.rowCount;
            case 2: return now.hour;
            case 3: return now.flow;
            case 4: return now.calm;
            case 5: return now.sumOf(WENT);
            case 6: return now.watchersNow();
            case 7: return now.companyNow() == NOBODY ? NONE : now.companyNow();
            case 8: return now.sumOf(HEAT);
            default: return BAD;
        }
    }

    public int geyser(int g, int what) {
        if (!now.hasVent(g)) {
            return BAD;
        }
        switch (what) {
            case 6: return now.shareOf(g);
            case 7: return now.vents[g].minds(now.watchersNow());
            default: return within(what, KIND, WENT) ? now.vents[g].part(what) : BAD;
        }
    }

    public int row(int i, int what) {
        if (!now.hasRow(i) || !within(what, 0, 1)) {
            return BAD;
        }
        return what == 0 ? now.watchers[i] : now.company[i];
    }

    // ---- what is changed

    public int alter(int g, int what, int v) {
        if (!now.hasVent(g) || !fitsVent(what, v)) {
            return BAD;
        }
        int was = now.vents[g].part(what);
        now.vents[g].change(what, v);
        return was;
    }

    private static boolean fitsVent(int what, int v) {
        switch (what) {
            case KIND: return within(v, PLAIN, FAINT);
            case NEED: return within(v, 1, MOST_NEED);
            case NERVE: return within(v, 0, MOST_NERVE);
            case HEAT: return within(v, 0, MOST_HEAT);
            case FRET: return within(v, 0, MOST_FRET);
            default: return false;
        }
    }

    public int tell(int what, int v) {
        int was = BAD;
        if (what == 0 && within(v, 0, MOST_FLOW)) {
            was = now.flow;
            now.flow = v;
        } else if (what == 1 && within(v, 0, MOST_CALM)) {
            was = now.calm;
            now.calm = v;
        }
        return was;
    }

    public int set(int i, int what, int v) {
        int was = BAD;
        if (!now.hasRow(i)) {
            return BAD;
        }
        if (what == 0 && within(v, 0, MOST_WATCHERS)) {
            was = now.watchers[i];
            now.watchers[i] = v;
        } else if (what == 1 && within(v, 0, NOBODY)) {
            was = now.company[i];
            now.company[i] = v;
        }
        return was;
    }

    public int open(int kind, int need, int nerve) {
        if (!fitsVent(KIND, kind) || !fitsVent(NEED, need) || !fitsVent(NERVE, nerve)) {
            return BAD;
        }
        return now.moreVents(kind, need, nerve) ? now.ventCount : FULL;
    }

    public int cut(int n) {
        if (!within(n, 0, now.ventCount)) {
            return BAD;
        }
        int were = now.ventCount;
        now.ventCount = n;
        return were;
    }

    public int add(int watchers, int whom) {
        return addTo(now, watchers, whom);
    }

    private static int addTo(Ground ground, int watchers, int company) {
        if (!within(watchers, 0, MOST_WATCHERS) || !within(company, 0, NOBODY)) {
            return BAD;
        }
        return ground.moreRows(watchers, company) ? ground.rowCount : FULL;
    }

    public int drop(int n) {
        if (!within(n, 0, now.rowCount)) {
            return BAD;
        }
        int were = now.rowCount;
        now.rowCount = n;
        return were;
    }

    // ---- hours

    public int hours(int n) {
        if (!within(n, 0, MOST_AT_ONCE)) {
            return BAD;
        }
        return now.hour + n >= HOURS_END ? FULL : now.upsOfAll(n);
    }

    public int runs(int n, int what) {
        if (!isAhead(n) || !within(what, 0, 4)) {
            return BAD;
        }
        return afresh().tally(n, what);
    }

    public int ahead(int g, int n, int what) {
        if (!now.hasVent(g) || !isAhead(n) || !within(what, 0, 2)) {
            return BAD;
        }
        Ground then = afresh();
        int ups = then.upsOf(g, n);
        Vent vent = then.vents[g];
        return what == 0 ? vent.heat : what == 1 ? vent.fret : ups;
    }

    public int ups(int n) {
        if (!isAhead(n)) {
            return BAD;
        }
        Ground then = afresh();
        then.upsOfAll(n);
        return then.passByPlan();
    }

    public int when(int g) {
        if (!now.hasVent(g)) {
            return BAD;
        }
        Ground then = afresh();
        for (int n = 0; n <= MOST_AHEAD; n++) {
            if (bit(then.passByPlan(), g) == 1) {
                return n;
            }
        }
        return NONE;
    }

    public int again() {
        Ground then = afresh();
        for (int n = 1; n <= MOST_AHEAD; n++) {
            then.passByPlan();
            if (then.standsAs(now)) {
                return n;
            }
        }
        return NONE;
    }

    // ---- what is best

    public int whom(int i, int n, int what) {
        if (!now.hasRow(i) || !isAhead(n) || !within(what, 0, 1)) {
            return BAD;
        }
        int best = NOBODY;
        int most = -1;
        for (int c = 0; c <= now.ventCount; c++) {
            Ground then = afresh();
            then.company[i] = now.choice(c);
            int ups = then.upsOfAll(n);
            if (ups > most) {
                most = ups;
                best = now.choice(c);
            }
        }
        return what == 0 ? best : most;
    }

    public int route(int n, int what) {
        if (!within(n, 0, MOST_TURNS) || what != 0 && !within(what, 10, 9 + n)) {
            return BAD;
        }
        int ways = 1;
        for (int i = 0; i < n; i++) {
            ways *= now.ventCount + 1;
        }
        int best = 0;
        int most = -1;
        for (int way = 0; way < ways; way++) {
            int ups = upsByRoute(way, n);
            if (ups > most) {
                most = ups;
                best = way;
            }
        }
        return what == 0 ? most : companyOnRoute(best, n, what - 10);
    }

    private int upsByRoute(int way, int n) {
        Ground then = afresh();
        int ups = 0;
        for (int i = 0; i < n; i++) {
            ups += Integer.bitCount(then.pass(then.watchersNow(), companyOnRoute(way, n, i)));
        }
        return ups;
    }

    /** Ways are numbers whose first figure is the first hour's, so that the first way is the least number. */
    private int companyOnRoute(int way, int n, int i) {
        int choices = Math.max(1, now.ventCount + 1);
        int rest = way;
        for (int behind = n - 1; behind > i; behind--) {
            rest /= choices;
        }
        return now.choice(rest % choices);
    }

    public int swap(int n, int what) {
        if (!isAhead(n) || !within(what, 0, 1)) {
            return BAD;
        }
        int best = NONE;
        int most = afresh().tally(n, 1);
        for (int i = 0; i < now.rowCount; i++) {
            for (int j = i + 1; j < now.rowCount; j++) {
                Ground then = afresh();
                then.exchange(i, j);
                int many = then.tally(n, 1);
                if (many > most) {
                    most = many;
                    best = 100 * i + j;
                }
            }
        }
        return best == NONE || what == 0 ? best : most;
    }

    public int bears(int i, int n) {
        if (!now.hasRow(i) || !isAhead(n)) {
            return BAD;
        }
        int without = upsWithWatchers(i, 0, n);
        int most = 0;
        for (int watchers = 1; watchers <= MOST_WATCHERS; watchers++) {
            if (upsWithWatchers(i, watchers, n) >= without) {
                most = watchers;
            }
        }
        return most;
    }

    private int upsWithWatchers(int i, int watchers, int n) {
        Ground then = afresh();
        if (then.hasRow(i)) {
            then.watchers[i] = watchers;
        }
        return then.upsOfAll(n);
    }

    public int flow(int g, int n, int m) {
        if (!now.hasVent(g) || !isAhead(n) || !within(m, 0, 20)) {
            return BAD;
        }
        for (int flow = 0; flow <= MOST_FLOW; flow++) {
            Ground then = afresh();
            then.flow = flow;
            if (then.upsOf(g, n) >= m) {
                return flow;
            }
        }
        return NONE;
    }

    public int kind(int g, int n, int what) {
        if (!now.hasVent(g) || !isAhead(n) || !within(what, 0, 1)) {
            return BAD;
        }
        int best = PLAIN;
        int most = -1;
        for (int kind = PLAIN; kind <= FAINT; kind++) {
            Ground then = afresh();
            then.vents[g].kind = kind;
            int ups = then.upsOf(g, n);
            if (ups > most) {
                most = ups;
                best = kind;
            }
        }
        return what == 0 ? best : most;
    }

    // ---- the actor and the crowd

    public int play(int n, int what) {
        if (!within(n, 0, MOST_TURNS) || !within(what, 0, 1)) {
            return BAD;
        }
        if (n == 0) {
            return what == 0 ? 0 : NONE;
        }
        for (int i = 0; i < levels.length; i++) {
            levels[i].become(now);
        }
        int best = NOBODY;
        int most = -1;
        for (int c = 0; c <= now.ventCount; c++) {
            int ups = leastFor(0, n, now.choice(c), most);
            if (ups > most) {
                most = ups;
                best = now.choice(c);
            }
        }
        return what == 0 ? most : best;
    }

    /** The actor's turn in hour depth of n, from how it stands on that level. */
    private int mostFrom(int depth, int n) {
        int most = 0;
        if (depth < n) {
            for (int c = 0; c <= now.ventCount; c++) {
                most = Math.max(most, leastFor(depth, n, now.choice(c), most));
            }
        }
        return most;
    }

    /** The crowd's turn, when the actor has said with whom he is. */
    private int leastFor(int depth, int n, int company, int most) {
        if (depth < 0 || depth >= MOST_TURNS) {
            return 0;
        }
        Ground then = levels[depth + 1];
        then.takeMoods(levels[depth]);
        int with = Integer.bitCount(then.pass(MOST_WATCHERS, company)) + mostFrom(depth + 1, n);
        // He has as much elsewhere: how much less it may be here is of no use to him.
        if (with <= most) {
            return with;
        }
        then.takeMoods(levels[depth]);
        int without = Integer.bitCount(then.pass(0, company)) + mostFrom(depth + 1, n);
        return Math.min(with, without);
    }

    // ---- hours without anybody

    public long luck(int v, int g, int n, int what) {
        if (!now.hasVent(g) || !areOdds(v, n, what)) {
            return BAD;
        }
        long sum = 0;
        for (int empty = 0; empty < 1 << n; empty++) {
            if (upsByOdds(empty, n, 1 << g) > 0) {
                sum += weight(empty, n, v);
            }
        }
        return lowest(sum, power(10, n), what);
    }

    public long mean(int v, int n, int what) {
        if (!areOdds(v, n, what)) {
            return BAD;
        }
        long sum = 0;
        for (int empty = 0; empty < 1 << n; empty++) {
            sum += upsByOdds(empty, n, (1 << MOST_GEYSERS) - 1) * weight(empty, n, v);
        }
        return lowest(sum, power(10, n), what);
    }

    private static boolean areOdds(int v, int n, int what) {
        return within(v, 0, 10) && within(n, 0, MOST_ODDS) && within(what, 0, 1);
    }

    /** How often geysers of a set (bits) go up, if nobody comes in the hours whose bits are in empty. */
    private int upsByOdds(int empty, int n, int set) {
        Ground then = afresh();
        int ups = 0;
        for (int i = 0; i < n; i++) {
            int watchers = bit(empty, i) == 1 ? 0 : then.watchersNow();
            ups += Integer.bitCount(then.pass(watchers, then.companyNow()) & set);
        }
        return ups;
    }

    /** Of power(10, n) cases, in how many just the hours of empty are without anybody. */
    private static long weight(int empty, int n, int v) {
        int without = Integer.bitCount(empty);
        return power(v, without) * power(10 - v, n - without);
    }

    private static long power(int base, int n) {
        long product = 1;
        for (int i = 0; i < n; i++) {
            product *= base;
        }
        return product;
    }

    private static long lowest(long above, long below, int what) {
        long common = below;
        long rest = above;
        // Below is 100000000 at most: Euclid's steps are far fewer than 100.
        for (int i = 0; i < 100 && rest != 0; i++) {
            long left = common % rest;
            common = rest;
            rest = left;
        }
        if (common <= 0) {
            return BAD;
        }
        return what == 0 ? above / common : below / common;
    }

    // ---- from when it went

    public int see(int n, int g, int v) {
        if (!within(n, 0, LAST_SEEN_HOUR) || !now.hasVent(g) || !within(v, 0, 1)) {
            return BAD;
        }
        return seen.take(n, g, v) ? seen.many : FULL;
    }

    public int forget(int n) {
        if (!within(n, 0, seen.many)) {
            return BAD;
        }
        int were = seen.many;
        seen.many = n;
        return were;
    }

    public int kinds(int g) {
        if (!now.hasVent(g)) {
            return BAD;
        }
        int bits = 0;
        for (int kind = PLAIN; kind <= FAINT; kind++) {
            Ground then = afresh();
            then.vents[g].kind = kind;
            if (goesAsSeen(then)) {
                bits |= 1 << kind;
            }
        }
        return bits;
    }

    public int nerves(int g) {
        if (!now.hasVent(g)) {
            return BAD;
        }
        int bits = 0;
        for (int nerve = 0; nerve <= MOST_NERVE; nerve++) {
            if (goesAsSeenByNerve(g, nerve)) {
                bits |= 1 << nerve;
            }
        }
        return bits;
    }

    private boolean goesAsSeenByNerve(int g, int nerve) {
        Ground then = afresh();
        if (then.hasVent(g)) {
            then.vents[g].nerve = nerve;
        }
        return goesAsSeen(then);
    }

    private boolean goesAsSeen(Ground then) {
        for (int n = 0; n < upsByHour.length; n++) {
            upsByHour[n] = then.passByPlan();
        }
        return seen.agrees(upsByHour);
    }

    public int ask(int g, int what) {
        if (!now.hasVent(g) || !within(what, 0, 1)) {
            return BAD;
        }
        int left = 0;
        for (int nerve = 0; nerve <= MOST_NERVE; nerve++) {
            if (goesAsSeenByNerve(g, nerve)) {
                hoursByNerve[left] = hoursOf(g);
                left++;
            }
        }
        int best = NONE;
        int fewest = left;
        for (int n = 0; n <= LAST_SEEN_HOUR; n++) {
            int worst = leftAtWorst(n, left);
            if (worst < fewest) {
                fewest = worst;
                best = n;
            }
        }
        return best == NONE || what == 0 ? best : fewest;
    }

    /** The hours (bits) in which a geyser went up in the latest trial. */
    private long hoursOf(int g) {
        long bits = 0;
        for (int n = 0; n < upsByHour.length; n++) {
            bits |= (long) bit(upsByHour[n], g) << n;
        }
        return bits;
    }

    private int leftAtWorst(int n, int left) {
        int up = 0;
        for (int i = 0; i < left && i < hoursByNerve.length; i++) {
            up += (int) (hoursByNerve[i] >>> n & 1);
        }
        return Math.max(up, left - up);
    }

    // ---- seasons

    public int season(int seed, int n, int what) {
        if (!within(n, 1, MOST_AHEAD) || !within(what, 0, 1)) {
            return BAD;
        }
        if (now.ventCount == 0) {
            return STATE;
        }
        Ground then = afresh();
        int grown = seed;
        int ups = 0;
        for (int i = 0; i < n; i++) {
            grown = grown * 1103515245 + 12345;
            int got = grown >>> 16 & 0x7fff;
            ups += Integer.bitCount(then.pass(got % 10, then.companyNow()));
        }
        return what == 0 ? ups : then.sumOf(FRET);
    }

    // ---- images, sheets

    public int keep(int k) {
        if (!within(k, 0, MOST_IMAGES - 1)) {
            return BAD;
        }
        int was = kept[k] ? 1 : 0;
        images[k].become(now);
        kept[k] = true;
        return was;
    }

    public int back(int k) {
        if (!within(k, 0, MOST_IMAGES - 1)) {
            return BAD;
        }
        if (!kept[k]) {
            return STATE;
        }
        now.become(images[k]);
        return now.hour;
    }

    public int sheet(int k, int lane, int n) {
        if (!within(k, 0, MOST_SHEETS - 1) || !isLane(lane) || n > MOST_CELLS) {
            return BAD;
        }
        if (n < 0) {
            return -10 - SIZE;
        }
        sheets[k].renew(lane, n);
        return 1;
    }

    public int lay(int k, int i, int v) {
        if (!within(k, 0, MOST_SHEETS - 1)) {
            return BAD;
        }
        int found = sheets[k].faultAt(sheets[k].lane, i);
        if (found != 0) {
            return -10 - found;
        }
        sheets[k].put(i, v);
        return 1;
    }

    public int read(int k, int lane, int f, int n) {
        if (!within(k, 0, MOST_SHEETS - 1) || !isLane(lane) || !within(n, 0, MOST_READ)) {
            return BAD;
        }
        Ground then = afresh();
        int found = 0;
        int came = 0;
        for (int i = 0; i < n && found == 0; i++) {
            // As a long, so that a far f stays far and does not come round.
            long at = f + 2L * i;
            found = sheets[k].faultOfTwo(lane, at);
            if (found == 0) {
                if (addTo(then, sheets[k].cellAt(at), sheets[k].cellAt(at + 1)) < 0) {
                    return -20 - i;
                }
                came++;
            }
        }
        now.become(then);
        latestTorn = found;
        return came;
    }

    private static boolean isLane(int lane) {
        return within(lane, 0, 2);
    }

    public int torn() {
        return latestTorn;
    }

    public int count(int what) {
        switch (what) {
            case 0: return seen.many;
            case 1: return (kept[0] ? 1 : 0) + (kept[1] ? 1 : 0);
            case 2: return tape.length;
            case 3: return sheets[0].size < 0 ? NONE : sheets[0].size;
            case 4: return now.sumOf(NEED);
            case 5: return now.sumOfWatchers();
            default: return BAD;
        }
    }

    // ---- what several of them use

    private Ground afresh() {
        trial.become(now);
        return trial;
    }

    private static boolean within(int v, int least, int most) {
        return v >= least && v <= most;
    }

    private static boolean isAhead(int n) {
        return within(n, 0, MOST_AHEAD);
    }

    private static int bit(int bits, int i) {
        return bits >>> i & 1;
    }

    /** One geyser. */
    private static final class Vent {
        int kind, need, nerve, heat, fret, went;

        void begin(int newKind, int newNeed, int newNerve) {
            kind = newKind;
            need = newNeed;
            nerve = newNerve;
            heat = 0;
            fret = 0;
            went = 0;
        }

        void become(Vent other) {
            kind = other.kind;
            need = other.need;
            nerve = other.nerve;
            takeMood(other);
        }

        void takeMood(Vent other) {
            heat = other.heat;
            fret = other.fret;
            went = other.went;
        }

        int part(int what) {
            switch (what) {
                case KIND: return kind;
                case NEED: return need;
                case NERVE: return nerve;
                case HEAT: return heat;
                case FRET: return fret;
                default: return went;
            }
        }

        void change(int what, int v) {
            switch (what) {
                case KIND: kind = v; break;
                case NEED: need = v; break;
                case NERVE: nerve = v; break;
                case HEAT: heat = v; break;
                case FRET: fret = v; break;
                default: break;
            }
        }

        int minds(int watchers) {
            int more = watchers > nerve ? watchers - nerve : 0;
            int minded = kind == PLAIN ? more : 2 * more;
            if (kind >= SULKY && watchers > 0) {
                minded += 1;
            }
            if (kind == FAINT && watchers == MOST_WATCHERS) {
                minded += 5;
            }
            return minded;
        }

        int fades() {
            return kind == PLAIN ? 2 : kind == SHY ? 1 : 0;
        }

        /** One hour of it: whether it goes up. */
        boolean pass(int share, int watchers, int calmed) {
            heat = Math.min(MOST_HEAT, heat + share);
            fret = Math.min(MOST_FRET, fret + minds(watchers));
            fret = Math.max(0, fret - calmed);
            if (watchers == 0) {
                fret = Math.max(0, fret - fades());
            }
            if (heat < need + fret) {
                return false;
            }
            went++;
            heat = 0;
            fret = 0;
            return true;
        }
    }

    /** All that an hour needs, that a text tells and an image keeps: geysers, source, plan, hour. */
    private static final class Ground {
        final Vent[] vents = new Vent[MOST_GEYSERS];
        final int[] watchers = new int[MOST_ROWS];
        final int[] company = new int[MOST_ROWS];
        int ventCount, rowCount, hour;
        int flow = FIRST_FLOW, calm = FIRST_CALM;

        Ground() {
            for (int g = 0; g < vents.length; g++) {
                vents[g] = new Vent();
            }
        }

        void clear() {
            ventCount = 0;
            rowCount = 0;
            hour = 0;
            flow = FIRST_FLOW;
            calm = FIRST_CALM;
        }

        void become(Ground other) {
            ventCount = other.ventCount;
            rowCount = other.rowCount;
            hour = other.hour;
            flow = other.flow;
            calm = other.calm;
            for (int g = 0; g < ventCount; g++) {
                vents[g].become(other.vents[g]);
            }
            for (int i = 0; i < rowCount; i++) {
                watchers[i] = other.watchers[i];
                company[i] = other.company[i];
            }
        }

        /** Less than become: for trials among which the plan and the kinds stay the same. */
        void takeMoods(Ground other) {
            for (int g = 0; g < ventCount; g++) {
                vents[g].takeMood(other.vents[g]);
            }
        }

        boolean hasVent(int g) {
            return g >= 0 && g < ventCount;
        }

        boolean hasRow(int i) {
            return i >= 0 && i < rowCount;
        }

        boolean moreVents(int kind, int need, int nerve) {
            if (ventCount >= MOST_GEYSERS) {
                return false;
            }
            vents[ventCount].begin(kind, need, nerve);
            ventCount++;
            return true;
        }

        boolean moreRows(int many, int whose) {
            if (rowCount >= MOST_ROWS) {
                return false;
            }
            watchers[rowCount] = many;
            company[rowCount] = whose;
            rowCount++;
            return true;
        }

        void exchange(int i, int j) {
            if (hasRow(i) && hasRow(j)) {
                int many = watchers[i];
                int whose = company[i];
                watchers[i] = watchers[j];
                company[i] = company[j];
                watchers[j] = many;
                company[j] = whose;
            }
        }

        /** Whom the actor may choose, by order: each geyser, and then nobody. */
        int choice(int c) {
            return c < ventCount ? c : NOBODY;
        }

        int shareOf(int g) {
            if (ventCount <= 0) {
                return 0;
            }
            return flow / ventCount + (g < flow % ventCount ? 1 : 0);
        }

        int turn() {
            return rowCount > 0 ? hour % rowCount : NONE;
        }

        int watchersNow() {
            int i = turn();
            return hasRow(i) ? watchers[i] : 0;
        }

        int companyNow() {
            int i = turn();
            return hasRow(i) ? company[i] : NOBODY;
        }

        /** One hour with so many watchers, the actor being with whom is told: which geysers go up (bits). */
        int pass(int many, int whose) {
            int up = 0;
            for (int g = 0; g < ventCount; g++) {
                if (vents[g].pass(shareOf(g), many, g == whose ? calm : 0)) {
                    up |= 1 << g;
                }
            }
            hour++;
            return up;
        }

        int passByPlan() {
            return pass(watchersNow(), companyNow());
        }

        int upsOfAll(int n) {
            int ups = 0;
            for (int i = 0; i < n; i++) {
                ups += Integer.bitCount(passByPlan());
            }
            return ups;
        }

        int upsOf(int g, int n) {
            int ups = 0;
            for (int i = 0; i < n; i++) {
                ups += bit(passByPlan(), g);
            }
            return ups;
        }

        /** n hours: 0 ups, 1 watchers who see one, 2 who see none, 3 frets in the end, 4 the greatest heat. */
        int tally(int n, int what) {
            int ups = 0;
            int pleased = 0;
            int vain = 0;
            int hottest = greatestHeat();
            for (int i = 0; i < n; i++) {
                int many = watchersNow();
                int up = passByPlan();
                ups += Integer.bitCount(up);
                if (up != 0) {
                    pleased += many;
                } else {
                    vain += many;
                }
                hottest = Math.max(hottest, greatestHeat());
            }
            switch (what) {
                case 0: return ups;
                case 1: return pleased;
                case 2: return vain;
                case 3: return sumOf(FRET);
                default: return hottest;
            }
        }

        boolean standsAs(Ground other) {
            if (turn() != other.turn() || ventCount != other.ventCount) {
                return false;
            }
            for (int g = 0; g < ventCount; g++) {
                if (vents[g].heat != other.vents[g].heat || vents[g].fret != other.vents[g].fret) {
                    return false;
                }
            }
            return true;
        }

        int greatestHeat() {
            int greatest = 0;
            for (int g = 0; g < ventCount; g++) {
                greatest = Math.max(greatest, vents[g].heat);
            }
            return greatest;
        }

        int sumOf(int what) {
            int sum = 0;
            for (int g = 0; g < ventCount; g++) {
                sum += vents[g].part(what);
            }
            return sum;
        }

        int sumOfWatchers() {
            int sum = 0;
            for (int i = 0; i < rowCount; i++) {
                sum += watchers[i];
            }
            return sum;
        }
    }

    /** The bytes that were fed. */
    private static final class Tape {
        final byte[] bytes = new byte[MOST_TAPE];
        int length;

        boolean take(int c) {
            if (length >= MOST_TAPE) {
                return false;
            }
            bytes[length] = (byte) c;
            length++;
            return true;
        }

        /** The byte at a place; -1 where there is none. */
        int byteAt(int place) {
            return place >= 0 && place < length ? bytes[place] : -1;
        }
    }

    /** Takes a tape token by token; the first fault stops it. */
    private static final class Reader {
        private static final int END = 0, NAME = 1, NUMBER = 2, STOP = 3, NO_SUCH = 4;
        private static final int FLOW_LINE = 4, CALM_LINE = 5, HOUR_LINE = 6, NO_LINE = 7;

        final Tape from = new Tape();
        int at, token, start, value, fault, place;
        boolean flowTold, calmTold;

        /** Tells a ground anew: how many lines. What it says is void, if there is a fault. */
        int takeAll(Ground into) {
            at = 0;
            fault = 0;
            place = 0;
            flowTold = false;
            calmTold = false;
            into.clear();
            int lines = 0;
            advance();
            for (int i = 0; i <= MOST_TAPE && fault == 0 && token != END; i++) {
                takeLine(into);
                lines++;
            }
            return lines;
        }

        private void takeLine(Ground into) {
            int line = lineOfName();
            if (line == NO_LINE) {
                fail(OUT_OF_PLACE, start);
            } else if (line == FLOW_LINE) {
                takeFlow(into);
            } else if (line == CALM_LINE) {
                takeCalm(into);
            } else if (line == HOUR_LINE) {
                takeHour(into);
            } else {
                takeVent(into, line);
            }
        }

        private void takeFlow(Ground into) {
            if (flowTold) {
                fail(TWICE, start);
            }
            flowTold = true;
            passName();
            into.flow = takeNumber(0, MOST_FLOW);
            takeStop();
        }

        private void takeCalm(Ground into) {
            if (calmTold) {
                fail(TWICE, start);
            }
            calmTold = true;
            passName();
            into.calm = takeNumber(0, MOST_CALM);
            takeStop();
        }

        private void takeHour(Ground into) {
            if (into.rowCount >= MOST_ROWS) {
                fail(TOO_MANY, start);
            }
            passName();
            int watchers = takeNumber(0, MOST_WATCHERS);
            int company = takeNumber(0, NOBODY);
            takeStop();
            into.moreRows(watchers, company);
        }

        private void takeVent(Ground into, int kind) {
            if (into.ventCount >= MOST_GEYSERS) {
                fail(TOO_MANY, start);
            }
            passName();
            int need = takeNumber(1, MOST_NEED);
            int nerve = takeNumber(0, MOST_NERVE);
            takeStop();
            into.moreVents(kind, need, nerve);
        }

        private void passName() {
            if (fault == 0) {
                advance();
            }
        }

        private int takeNumber(int least, int most) {
            if (fault != 0) {
                return least;
            }
            if (token != NUMBER) {
                fail(OUT_OF_PLACE, start);
                return least;
            }
            if (!within(value, least, most)) {
                fail(OUT_OF_BOUNDS, start);
                return least;
            }
            int taken = value;
            advance();
            return taken;
        }

        private void takeStop() {
            if (fault == 0 && token != STOP) {
                fail(OUT_OF_PLACE, start);
            }
            if (fault == 0) {
                advance();
            }
        }

        private void fail(int what, int where) {
            if (fault == 0) {
                fault = what;
                place = where;
            }
        }

        /** Reads one token more, the longest that stands there. */
        private void advance() {
            for (int i = 0; i < MOST_TAPE && from.byteAt(at) == ' '; i++) {
                at++;
            }
            start = at;
            value = 0;
            int first = from.byteAt(at);
            at++;
            if (first < 0) {
                token = END;
            } else if (first == ';') {
                token = STOP;
            } else if (isLetter(first)) {
                token = NAME;
                for (int i = 0; i < MOST_TAPE && isLetter(from.byteAt(at)); i++) {
                    at++;
                }
            } else if (isFigure(first)) {
                value = first - '0';
                // A third figure tells enough: it is too long.
                for (int i = 0; i < 2 && isFigure(from.byteAt(at)); i++) {
                    value = 10 * value + from.byteAt(at) - '0';
                    at++;
                }
                token = at - start > 2 ? NO_SUCH : NUMBER;
            } else {
                token = NO_SUCH;
            }
            if (token == NO_SUCH) {
                fail(NO_TOKEN, start);
            }
        }

        private static boolean isLetter(int c) {
            return c >= 'a' && c <= 'z';
        }

        private static boolean isFigure(int c) {
            return c >= '0' && c <= '9';
        }

        /** Which line the token begins: a kind, or one of the others. */
        private int lineOfName() {
            if (token != NAME) {
                return NO_LINE;
            }
            if (nameIs("plain")) {
                return PLAIN;
            }
            if (nameIs("shy")) {
                return SHY;
            }
            if (nameIs("sulky")) {
                return SULKY;
            }
            if (nameIs("faint")) {
                return FAINT;
            }
            if (nameIs("flow")) {
                return FLOW_LINE;
            }
            if (nameIs("calm")) {
                return CALM_LINE;
            }
            return nameIs("hour") ? HOUR_LINE : NO_LINE;
        }

        private boolean nameIs(String name) {
            if (at - start != name.length()) {
                return false;
            }
            for (int i = 0; i < name.length(); i++) {
                if (from.byteAt(start + i) != name.charAt(i)) {
                    return false;
                }
            }
            return true;
        }
    }

    /** What was seen, by order. */
    private static final class Seen {
        final int[] hour = new int[MOST_SEEN];
        final int[] vent = new int[MOST_SEEN];
        final int[] went = new int[MOST_SEEN];
        int many;

        boolean take(int n, int g, int v) {
            if (many >= MOST_SEEN) {
                return false;
            }
            hour[many] = n;
            vent[many] = g;
            went[many] = v;
            many++;
            return true;
        }

        boolean agrees(int[] upsByHour) {
            for (int i = 0; i < many; i++) {
                int n = hour[i];
                if (n < 0 || n >= upsByHour.length || bit(upsByHour[n], vent[i]) != went[i]) {
                    return false;
                }
            }
            return true;
        }
    }

    /** A row of cells of one lane, or nothing (size below 0). An int holds whatever lay() can put. */
    private static final class Sheet {
        final int[] cells = new int[MOST_CELLS];
        int lane;
        int size = NONE;

        void renew(int newLane, int newSize) {
            lane = newLane;
            size = Math.max(0, Math.min(newSize, MOST_CELLS));
            for (int i = 0; i < cells.length; i++) {
                cells[i] = 0;
            }
        }

        int faultAt(int asLane, long i) {
            if (size < 0) {
                return NULL;
            }
            if (asLane != lane) {
                return CAST;
            }
            return i < 0 || i >= size ? INDEX : 0;
        }

        int faultOfTwo(int asLane, long i) {
            int first = faultAt(asLane, i);
            return first != 0 ? first : faultAt(asLane, i + 1);
        }

        void put(int i, int v) {
            if (i >= 0 && i < size) {
                cells[i] = lane == 0 ? (short) v : v;
            }
        }

        int cellAt(long i) {
            return i >= 0 && i < size ? cells[(int) i] : 0;
        }
    }
}
