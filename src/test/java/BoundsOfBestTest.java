/** Boundaries of what is best, of the actor and the crowd, of hours by odds: promises 22 to 30. */
public final class BoundsOfBestTest {
    private static final int BAD = Check.BAD, NONE = Check.NONE;
    private static final int FAR = Check.FAR, LOW = Check.LOW;
    private static final int[] NOT_AHEAD = {-1, 201, 202, LOW, FAR};
    private static final int[] NO_GEYSER = {-1, 3, 4, LOW, FAR};
    private static final int[] NOT_0_1 = {-1, 2, LOW, FAR};
    private static final Check.Maker RICH = Check::rich, BRIM = Check::full;
    private static final Check check = new Check();

    public static void main(String[] args) {
        whomBad();
        whomAtBounds();
        whomOfSeveral();
        routeBad();
        routeAtBounds();
        routeOfSeveral();
        swapBad();
        swapAtBounds();
        swapOfSeveral();
        swapMoreThanAsItIs();
        bearsBad();
        bearsAtBounds();
        bearsNoLessOften();
        flowBad();
        flowAtBounds();
        flowByNone();
        kindBad();
        kindAtBounds();
        kindOfSeveral();
        playBad();
        playAtBounds();
        playOfSeveral();
        luckBad();
        meanBad();
        luckAtBounds();
        meanAtBounds();
        lowestTerms();
        check.end();
    }

    // ---- promise 22

    private static void whomBad() {
        check.by("Promise 22: BAD");
        for (int n : NOT_AHEAD) {
            check.keeps("whom(0, " + n + ", 0)", RICH, x -> x.whom(0, n, 0), BAD);
        }
        for (int i : new int[] {-1, 3, 4, 12, LOW, FAR}) {
            check.keeps("whom(" + i + ", 1, 0)", RICH, x -> x.whom(i, 1, 0), BAD);
        }
        check.keeps("whom(12, 1, 0)", BRIM, x -> x.whom(12, 1, 0), BAD);
        for (int what : NOT_0_1) {
            check.keeps("whom(0, 1, " + what + ")", RICH, x -> x.whom(0, 1, what), BAD);
        }
    }

    private static void whomAtBounds() {
        check.by("Promise 22: in n HOURS (0 to 200)");
        // 0 goes UP always, 1 only with the actor.
        Check.Maker maker = () -> Check.of("plain 5 9;plain 5 0;flow 10;calm 20;hour 9 4;");
        int[][] due = {{0, 0, 0}, {1, 1, 2}, {199, 1, 398}, {200, 1, 400}};
        for (int[] it : due) {
            check.keeps("whom(0, " + it[0] + ", 0)", maker, x -> x.whom(0, it[0], 0), it[1]);
            check.keeps("whom(0, " + it[0] + ", 1)", maker, x -> x.whom(0, it[0], 1), it[2]);
        }
        check.keeps("the last ROW", BRIM, x -> x.whom(11, 0, 0), 0);
        check.by("Promise 22: (0 to 4; each GEYSER that there is, nobody)");
        for (int last = 0; last < 4; last++) {
            GeyserNerves x = new GeyserNerves();
            for (int g = 0; g <= last; g++) {
                x.open(0, 60, g < last ? 9 : 0);
            }
            x.add(9, 4);
            x.tell(1, 20);
            x.tell(0, 0);
            x.alter(last, 3, 60);
            check.due("with " + last, x.whom(0, 1, 0), last);
            check.due("with " + last, x.whom(0, 1, 1), 1);
            check.due("the ROW is as it was", x.row(0, 1), 4);
        }
        GeyserNerves none = new GeyserNerves();
        none.add(9, 2);
        check.due("nobody alone", none.whom(0, 9, 0), 4);
        check.due("nobody alone", none.whom(0, 9, 1), 0);
    }

    private static void whomOfSeveral() {
        check.by("Promise 22: of several the least");
        GeyserNerves x = Check.of("plain 5 0;plain 5 0;flow 10;calm 20;hour 9 3;");
        check.due("with either", x.whom(0, 1, 0), 0);
        x.alter(0, 2, 9);
        check.due("with the second", x.whom(0, 1, 0), 1);
        x.alter(1, 2, 9);
        check.due("with any, or nobody", x.whom(0, 1, 0), 0);
        // With it in ROW 0 it goes UP once in 6 HOURS, left alone twice.
        GeyserNerves alone = Check.of("sulky 4 3;flow 5;calm 7;hour 9 3;hour 1 3;");
        check.due("nobody is better", alone.whom(0, 6, 0), 4);
        check.due("nobody is better", alone.whom(0, 6, 1), 2);
    }

    // ---- promise 23

    private static void routeBad() {
        check.by("Promise 23: BAD (also other whats)");
        for (int n : new int[] {-1, 5, LOW, FAR}) {
            check.keeps("route(" + n + ", 0)", RICH, x -> x.route(n, 0), BAD);
            check.keeps("route(" + n + ", 10)", RICH, x -> x.route(n, 10), BAD);
        }
        for (int n = 0; n <= 4; n++) {
            int hours = n;
            for (int what : new int[] {-1, 1, 9, 10 + n, 11 + n, 14, LOW, FAR, LOW + 10}) {
                check.keeps("route(" + n + ", " + what + ")", RICH, x -> x.route(hours, what), BAD);
            }
        }
    }

    private static void routeAtBounds() {
        check.by("Promise 23: the next n HOURS (0 to 4), HOUR i (0 to n less 1)");
        // 0 goes UP always, 1 without the actor only in HOURS that nobody watches.
        Check.Maker maker = () -> Check.of("plain 8 9;plain 8 0;flow 16;calm 9;hour 0 4;hour 9 4;");
        int[] whom = {0, 1, 0, 1};
        for (int n = 0; n <= 4; n++) {
            int hours = n;
            check.keeps("route(" + n + ", 0)", maker, x -> x.route(hours, 0), 2 * n);
            for (int i = 0; i < n; i++) {
                int what = 10 + i;
                check.keeps("route(" + n + ", " + what + ")", maker, x -> x.route(hours, what), whom[i]);
            }
        }
        check.by("Promise 23: whatever THE PLAN tells");
        GeyserNerves x = Check.of("plain 8 9;plain 8 0;flow 16;calm 9;hour 9 0;");
        check.due("by THE PLAN", x.runs(3, 0), 3);
        check.due("route(3, 0)", x.route(3, 0), 6);
        x.tell(1, 20);
        check.due("HOUR 0", x.hours(1), 1);
        check.due("from HOUR 1 on", x.route(1, 10), 1);
    }

    private static void routeOfSeveral() {
        check.by("Promise 23: of several the first by its row (as numbers)");
        GeyserNerves x = Check.of("plain 8 9;plain 8 9;flow 16;hour 9 4;");
        for (int i = 0; i < 4; i++) {
            check.due("all alike, HOUR " + i, x.route(4, 10 + i), 0);
        }
        // 1 is with FRET 8 now, by which it can not go UP but for two HOURS with the actor: as late as may be.
        GeyserNerves late = Check.of("plain 60 9;sulky 60 9;flow 0;calm 4;hour 0 4;");
        late.alter(1, 3, 60);
        late.alter(1, 4, 8);
        int[] due = {0, 0, 1, 1};
        check.due("how often", late.route(4, 0), 1);
        for (int i = 0; i < 4; i++) {
            check.due("as late as may be, HOUR " + i, late.route(4, 10 + i), due[i]);
        }
        check.due("just in time, HOUR 0", late.route(2, 10), 1);
        check.due("too late, HOUR 0", late.route(1, 10), 0);
        GeyserNerves alone = Check.of("faint 6 2;flow 8;calm 1;hour 3 0;hour 9 2;hour 0 1;");
        check.due("nobody is better in HOUR 0", alone.route(4, 10), 4);
        GeyserNerves none = Check.of("hour 9 0;");
        check.due("nobody alone", none.route(1, 10), 4);
    }

    // ---- promise 24

    private static void swapBad() {
        check.by("Promise 24: BAD");
        for (int n : NOT_AHEAD) {
            check.keeps("swap(" + n + ", 0)", RICH, x -> x.swap(n, 0), BAD);
            check.keeps("swap(" + n + ", 1) without ROWS", GeyserNerves::new, x -> x.swap(n, 1), BAD);
        }
        for (int what : NOT_0_1) {
            check.keeps("swap(9, " + what + ")", RICH, x -> x.swap(9, what), BAD);
            check.keeps("swap(0, " + what + ")", GeyserNerves::new, x -> x.swap(0, what), BAD);
        }
    }

    /** It goes UP in HOUR 11 and each 12th behind it; ROWS have WATCHERS where told. */
    private static GeyserNerves twelve(int... watchers) {
        GeyserNerves x = Check.of("plain 12 9;flow 1;");
        for (int i = 0; i < 12; i++) {
            int many = 0;
            for (int j = 0; j < watchers.length; j += 2) {
                many = watchers[j] == i ? watchers[j + 1] : many;
            }
            x.add(many, 4);
        }
        return x;
    }

    private static void swapAtBounds() {
        check.by("Promise 24: of n HOURS (0 to 200)");
        Check.Maker maker = () -> twelve(10, 9);
        int[][] due = {{0, NONE, NONE}, {11, NONE, NONE}, {12, 1011, 9}, {23, 1011, 9}, {24, 1011, 18},
            {191, 1011, 135}, {192, 1011, 144}, {200, 1011, 144}};
        for (int[] it : due) {
            check.keeps("swap(" + it[0] + ", 0)", maker, x -> x.swap(it[0], 0), it[1]);
            check.keeps("swap(" + it[0] + ", 1)", maker, x -> x.swap(it[0], 1), it[2]);
        }
        check.by("Promise 24: 100 times the lesser and the greater");
        for (int i = 0; i < 11; i++) {
            check.due("ROWS " + i + " and 11", twelve(i, 5).swap(12, 0), 100 * i + 11);
        }
        GeyserNerves two = Check.of("plain 8 9;flow 4;hour 9 4;hour 0 4;");
        check.due("ROWS 0 and 1", two.swap(2, 0), 1);
    }

    private static void swapOfSeveral() {
        check.by("Promise 24: of several the least");
        check.due("ROWS 3 or 7", twelve(3, 6, 7, 6).swap(12, 0), 311);
        check.due("ROWS 3 or 7, the better", twelve(3, 6, 7, 7).swap(12, 0), 711);
        check.due("how many", twelve(3, 6, 7, 7).swap(12, 1), 7);
        check.due("ROWS 9 or 10", twelve(9, 1, 10, 1).swap(12, 0), 911);
    }

    private static void swapMoreThanAsItIs() {
        check.by("Promise 24: more than as it is; NONE: by none");
        Check.Maker as = () -> twelve(2, 5, 11, 5);
        check.keeps("as many", as, x -> x.swap(12, 0), NONE);
        check.keeps("as many", as, x -> x.swap(12, 1), NONE);
        check.due("1 more", twelve(2, 5, 11, 4).swap(12, 0), 211);
        check.due("1 more", twelve(2, 5, 11, 4).swap(12, 1), 5);
        check.due("1 fewer", twelve(2, 5, 11, 6).swap(12, 0), NONE);
        check.due("1 ROW", Check.of("plain 8 9;hour 9 4;").swap(9, 0), NONE);
        check.due("no GEYSERS", Check.of("hour 9 4;hour 0 4;").swap(9, 0), NONE);
        check.by("Promise 24: two ROWS that are to change places, whole");
        GeyserNerves fewer = Check.of("plain 8 2;hour 3 4;hour 2 4;");
        check.due("fewer WATCHERS come first", fewer.swap(1, 0), 1);
        check.due("fewer WATCHERS come first", fewer.swap(1, 1), 2);
        GeyserNerves actor = Check.of("plain 8 0;calm 9;hour 9 4;hour 9 0;");
        check.due("the actor comes first", actor.swap(1, 0), 1);
        check.due("the actor comes first", actor.swap(1, 1), 9);
        // Now 4 see it in HOUR 1; else 4 in HOUR 0, and 9 without the actor put it off.
        check.due("the actor is with it no more", Check.of("plain 8 0;calm 9;hour 9 4;hour 4 0;").swap(2, 0), NONE);
    }

    // ---- promise 25

    private static void bearsBad() {
        check.by("Promise 25: BAD");
        for (int n : NOT_AHEAD) {
            check.keeps("bears(0, " + n + ")", RICH, x -> x.bears(0, n), BAD);
        }
        for (int i : new int[] {-1, 3, 4, 12, LOW, FAR}) {
            check.keeps("bears(" + i + ", 1)", RICH, x -> x.bears(i, 1), BAD);
        }
        check.keeps("bears(12, 1)", BRIM, x -> x.bears(12, 1), BAD);
    }

    private static void bearsAtBounds() {
        check.by("Promise 25: how many WATCHERS (0 to 9), in n HOURS (0 to 200)");
        for (int nerve = 0; nerve <= 9; nerve++) {
            int it = nerve;
            Check.Maker maker = () -> Check.of("plain 4 " + it + ";flow 4;hour 5 4;");
            check.keeps("bears(0, 0)", maker, x -> x.bears(0, 0), 9);
            check.keeps("bears(0, 1) by " + nerve, maker, x -> x.bears(0, 1), nerve);
            check.keeps("bears(0, 200) by " + nerve, maker, x -> x.bears(0, 200), nerve);
        }
        check.due("a sulky one bears none", Check.of("sulky 4 9;flow 4;hour 5 4;").bears(0, 1), 0);
        check.due("a faint one bears 8", Check.of("faint 4 9;flow 5;hour 5 4;").bears(0, 1), 8);
        check.due("no GEYSERS", Check.of("hour 5 4;").bears(0, 200), 9);
        check.due("the last ROW, in which none goes UP", twelve().bears(11, 11), 9);
        check.due("the last ROW, in which one does", twelve().bears(11, 12), 9);
    }

    private static void bearsNoLessOften() {
        check.by("Promise 25: no less often than if it had none");
        // In HOUR 1 it goes UP with HEAT 8, NEED 5: FRET 3 does, 4 does not.
        GeyserNerves x = Check.of("plain 5 0;flow 4;hour 0 4;hour 9 4;");
        check.due("bears(1, 2)", x.bears(1, 2), 3);
        // By 9 of them it goes UP in HOUR 2 instead: HEAT 12, FRET 9 less 2.
        check.due("bears(1, 3)", x.bears(1, 3), 9);
        x.tell(0, 5);
        x.alter(0, 1, 9);
        check.due("a spare of 1", x.bears(1, 2), 1);
        GeyserNerves more = Check.of("faint 1 2;flow 4;calm 7;hour 7 0;hour 2 1;hour 9 1;");
        check.due("9, though fewer are too many", more.bears(0, 6), 9);
    }

    // ---- promise 26

    private static void flowBad() {
        check.by("Promise 26: BAD");
        for (int g : NO_GEYSER) {
            check.keeps("flow(" + g + ", 1, 1)", RICH, x -> x.flow(g, 1, 1), BAD);
        }
        check.keeps("flow(4, 1, 1)", BRIM, x -> x.flow(4, 1, 1), BAD);
        for (int n : NOT_AHEAD) {
            check.keeps("flow(0, " + n + ", 1)", RICH, x -> x.flow(0, n, 1), BAD);
        }
        for (int m : new int[] {-1, 21, LOW, FAR}) {
            check.keeps("flow(0, 1, " + m + ")", RICH, x -> x.flow(0, 1, m), BAD);
        }
    }

    private static void flowAtBounds() {
        check.by("Promise 26: m times (0 to 20), or more, in n HOURS (0 to 200)");
        Check.Maker maker = () -> Check.of("plain 10 9;flow 3;hour 9 4;");
        int[][] due = {{0, 0, 0}, {200, 0, 0}, {0, 1, NONE}, {1, 1, 10}, {2, 1, 5}, {9, 1, 2}, {10, 1, 1}, {200, 1, 1},
            {19, 20, NONE}, {20, 20, 10}, {39, 20, 10}, {40, 20, 5}, {200, 20, 1}, {199, 20, 2}, {199, 19, 1}};
        for (int[] it : due) {
            String what = "flow(0, " + it[0] + ", " + it[1] + ")";
            check.keeps(what, maker, x -> x.flow(0, it[0], it[1]), it[2]);
        }
        // By FLOW 5 it goes UP twice in 4 HOURS, by 10 four times: never just three times.
        check.keeps("or more", maker, x -> x.flow(0, 4, 3), 10);
    }

    private static void flowByNone() {
        check.by("Promise 26: the least FLOW; NONE: by none");
        GeyserNerves x = Check.of("plain 40 9;");
        check.due("by 40", x.flow(0, 1, 1), 40);
        x.alter(0, 1, 41);
        check.due("by 41", x.flow(0, 1, 1), NONE);
        check.due("by 21 in two HOURS", x.flow(0, 2, 1), 21);
        x.alter(0, 3, 41);
        check.due("by 0", x.flow(0, 1, 1), 0);
        check.due("FLOW is as it was", x.rule(3), 8);
        GeyserNerves two = Check.of("plain 10 9;plain 10 9;");
        check.due("19 has 1 left over for the first", two.flow(0, 1, 1), 19);
        check.due("20 does for the second", two.flow(1, 1, 1), 20);
    }

    // ---- promise 27

    private static void kindBad() {
        check.by("Promise 27: BAD");
        for (int g : NO_GEYSER) {
            check.keeps("kind(" + g + ", 1, 0)", RICH, x -> x.kind(g, 1, 0), BAD);
        }
        check.keeps("kind(4, 1, 0)", BRIM, x -> x.kind(4, 1, 0), BAD);
        for (int n : NOT_AHEAD) {
            check.keeps("kind(0, " + n + ", 0)", RICH, x -> x.kind(0, n, 0), BAD);
        }
        for (int what : NOT_0_1) {
            check.keeps("kind(0, 1, " + what + ")", RICH, x -> x.kind(0, 1, what), BAD);
        }
    }

    private static void kindAtBounds() {
        check.by("Promise 27: in n HOURS (0 to 200)");
        Check.Maker maker = () -> Check.of("plain 1 9;faint 4 9;flow 8;hour 5 4;");
        int[][] due = {{0, 0, 0}, {1, 0, 1}, {199, 0, 199}, {200, 0, 200}};
        for (int[] it : due) {
            check.keeps("kind(1, " + it[0] + ", 0)", maker, x -> x.kind(1, it[0], 0), it[1]);
            check.keeps("kind(1, " + it[0] + ", 1)", maker, x -> x.kind(1, it[0], 1), it[2]);
        }
    }

    private static void kindOfSeveral() {
        check.by("Promise 27: of several the first");
        GeyserNerves x = Check.of("faint 4 0;flow 4;hour 0 4;");
        check.due("all alike", x.kind(0, 5, 0), 0);
        check.due("none goes UP", Check.of("faint 60 0;flow 0;hour 9 4;").kind(0, 9, 0), 0);
        GeyserNerves shy = Check.of("faint 5 1;flow 5;calm 2;hour 8 2;hour 2 0;");
        check.due("a shy one goes UP most often", shy.kind(0, 6, 0), 1);
        GeyserNerves faint = Check.of("sulky 4 2;sulky 1 6;flow 10;calm 6;hour 9 4;hour 2 1;hour 0 0;hour 7 2;");
        check.due("a faint one goes UP most often", faint.kind(0, 8, 0), 3);
        check.due("how often", faint.kind(0, 8, 1), 3);
    }

    // ---- promise 28

    private static void playBad() {
        check.by("Promise 28: BAD");
        for (int n : new int[] {-1, 5, LOW, FAR}) {
            check.keeps("play(" + n + ", 0)", RICH, x -> x.play(n, 0), BAD);
            check.keeps("play(" + n + ", 1)", RICH, x -> x.play(n, 1), BAD);
        }
        for (int what : NOT_0_1) {
            check.keeps("play(0, " + what + ")", RICH, x -> x.play(0, what), BAD);
            check.keeps("play(4, " + what + ")", RICH, x -> x.play(4, what), BAD);
        }
    }

    private static void playAtBounds() {
        check.by("Promise 28: for n HOURS (0 to 4); NONE: n is 0");
        // 1 goes UP whatever the crowd does, if the actor is with it: 9 less 9.
        Check.Maker maker = () -> Check.of("plain 8 9;plain 8 0;flow 16;calm 9;hour 3 0;");
        check.keeps("play(0, 0)", maker, x -> x.play(0, 0), 0);
        check.keeps("play(0, 1)", maker, x -> x.play(0, 1), NONE);
        check.keeps("play(0, 1) of a rich one", RICH, x -> x.play(0, 1), NONE);
        for (int n = 1; n <= 4; n++) {
            int hours = n;
            check.keeps("play(" + n + ", 0)", maker, x -> x.play(hours, 0), 2 * n);
            check.keeps("play(" + n + ", 1)", maker, x -> x.play(hours, 1), 1);
        }
        // HEAT 8 and 16: FRET must be 0 behind both HOURS, so that he is with it in both.
        Check.Maker both = () -> Check.of("plain 16 0;plain 60 0;flow 16;calm 9;");
        check.keeps("one HOUR is too short", both, x -> x.play(1, 0), 0);
        check.keeps("in two HOURS", both, x -> x.play(2, 0), 1);
        check.keeps("in three HOURS", both, x -> x.play(3, 0), 1);
        check.keeps("in four HOURS", both, x -> x.play(4, 0), 2);
        check.keeps("with it", both, x -> x.play(4, 1), 0);
        check.by("Promise 28: the crowd comes (9 WATCHERS) or not (0), so that GEYSERS go UP least often");
        GeyserNerves x = Check.of("plain 8 0;calm 8;");
        check.due("calmed 1 too little", x.play(1, 0), 0);
        x.tell(1, 9);
        check.due("calmed enough", x.play(1, 0), 1);
        x.alter(0, 2, 1);
        x.tell(1, 8);
        check.due("9 WATCHERS less NERVE 1", x.play(1, 0), 1);
    }

    private static void playOfSeveral() {
        check.by("Promise 28: with whom he is in the first HOUR, of several the least");
        GeyserNerves x = Check.of("plain 60 0;plain 60 0;plain 60 0;plain 60 0;flow 0;calm 20;");
        check.due("all alike", x.play(4, 1), 0);
        for (int g = 3; g >= 0; g--) {
            x.alter(g, 3, 60);
            check.due("with " + g, x.play(1, 1), g);
            check.due("one goes UP", x.play(1, 0), 1);
        }
        x.cut(0);
        check.due("nobody alone", x.play(4, 1), 4);
        check.due("nobody alone", x.play(4, 0), 0);
    }

    // ---- promises 29 and 30

    private static void luckBad() {
        check.by("Promise 29: BAD");
        for (int v : new int[] {-1, 11, LOW, FAR}) {
            check.keeps("luck(" + v + ", 0, 1, 0)", RICH, x -> x.luck(v, 0, 1, 0), BAD);
        }
        for (int g : NO_GEYSER) {
            check.keeps("luck(5, " + g + ", 1, 0)", RICH, x -> x.luck(5, g, 1, 0), BAD);
        }
        check.keeps("luck(5, 4, 1, 0)", BRIM, x -> x.luck(5, 4, 1, 0), BAD);
        for (int n : new int[] {-1, 9, LOW, FAR}) {
            check.keeps("luck(5, 0, " + n + ", 0)", RICH, x -> x.luck(5, 0, n, 0), BAD);
        }
        for (int what : NOT_0_1) {
            check.keeps("luck(5, 0, 1, " + what + ")", RICH, x -> x.luck(5, 0, 1, what), BAD);
        }
    }

    private static void meanBad() {
        check.by("Promise 30: BAD");
        for (int v : new int[] {-1, 11, LOW, FAR}) {
            check.keeps("mean(" + v + ", 1, 0)", RICH, x -> x.mean(v, 1, 0), BAD);
        }
        for (int n : new int[] {-1, 9, LOW, FAR}) {
            check.keeps("mean(5, " + n + ", 0)", RICH, x -> x.mean(5, n, 0), BAD);
        }
        for (int what : NOT_0_1) {
            check.keeps("mean(5, 1, " + what + ")", RICH, x -> x.mean(5, 1, what), BAD);
            check.keeps("mean(5, 1, " + what + ")", GeyserNerves::new, x -> x.mean(5, 1, what), BAD);
        }
    }

    /** A sulky one that goes UP in HOUR 7 alone, if nobody came in any of the 8. */
    private static GeyserNerves rare() {
        return Check.of("sulky 8 0;flow 1;hour 9 4;");
    }

    private static void luckAtBounds() {
        check.by("Promise 29: n HOURS (0 to 8), nobody comes by v out of ten (0 to 10)");
        Check.Maker maker = BoundsOfBestTest::rare;
        long[][] due = {{0, 8, 0, 1}, {1, 8, 1, 100000000}, {2, 8, 1, 390625}, {3, 8, 6561, 100000000},
            {5, 8, 1, 256}, {9, 8, 43046721, 100000000}, {10, 8, 1, 1}, {10, 7, 0, 1}, {5, 0, 0, 1}, {10, 0, 0, 1}};
        for (long[] it : due) {
            int v = (int) it[0], n = (int) it[1];
            check.keeps("luck(" + v + ", 0, " + n + ", 0)", maker, x -> x.luck(v, 0, n, 0), it[2]);
            check.keeps("luck(" + v + ", 0, " + n + ", 1)", maker, x -> x.luck(v, 0, n, 1), it[3]);
        }
        Check.Maker first = () -> Check.of("plain 8 0;hour 9 4;");
        for (int v = 0; v <= 10; v++) {
            int odds = v, by = v == 0 || v == 10 ? 10 : v == 5 ? 5 : v % 2 == 0 ? 2 : 1;
            check.keeps("luck(" + v + ", 0, 1, 0)", first, x -> x.luck(odds, 0, 1, 0), v / by);
            check.keeps("luck(" + v + ", 0, 1, 1)", first, x -> x.luck(odds, 0, 1, 1), 10 / by);
        }
        check.by("Promise 29: that a GEYSER goes UP in them");
        GeyserNerves two = Check.of("plain 4 0;plain 4 9;hour 9 4;");
        check.due("the first, in one HOUR", two.luck(1, 0, 1, 1), 10);
        check.due("the second, in one HOUR", two.luck(1, 1, 1, 1), 1);
        check.due("more than once is once", two.luck(1, 1, 8, 0), 1);
    }

    private static void meanAtBounds() {
        check.by("Promise 30: likewise, the mean of how many times GEYSERS go UP in them");
        Check.Maker maker = BoundsOfBestTest::rare;
        long[][] due = {{0, 8, 0, 1}, {1, 8, 1, 100000000}, {9, 8, 43046721, 100000000}, {10, 8, 1, 1}, {10, 7, 0, 1},
            {5, 0, 0, 1}};
        for (long[] it : due) {
            int v = (int) it[0], n = (int) it[1];
            check.keeps("mean(" + v + ", " + n + ", 0)", maker, x -> x.mean(v, n, 0), it[2]);
            check.keeps("mean(" + v + ", " + n + ", 1)", maker, x -> x.mean(v, n, 1), it[3]);
        }
        GeyserNerves four = Check.of("plain 2 9;plain 2 9;plain 2 9;plain 2 9;hour 9 4;");
        for (int v = 0; v <= 10; v++) {
            check.due("4 in each of 8", four.mean(v, 8, 0), 32);
            check.due("4 in each of 8", four.mean(v, 8, 1), 1);
        }
        check.due("no GEYSERS", Check.of("hour 9 4;").mean(5, 8, 0), 0);
        check.due("no GEYSERS", Check.of("hour 9 4;").mean(5, 8, 1), 1);
        check.due("no ROWS: nobody comes at all", Check.of("plain 8 0;").mean(0, 8, 0), 8);
    }

    private static void lowestTerms() {
        check.by("Terms: fractions are in lowest terms, the denominator above 0 (0 is 0 by 1)");
        // It goes UP in every HOUR without anybody, else FRET stays for some.
        GeyserNerves x = Check.of("plain 8 0;hour 2 4;");
        long[][] due = {{5, 1, 1, 2}, {4, 1, 2, 5}, {6, 1, 3, 5}, {8, 1, 4, 5}, {0, 1, 0, 1}, {10, 1, 1, 1}};
        for (long[] it : due) {
            check.due("luck by " + it[0], x.luck((int) it[0], 0, (int) it[1], 0), it[2]);
            check.due("luck by " + it[0], x.luck((int) it[0], 0, (int) it[1], 1), it[3]);
            check.due("mean by " + it[0], x.mean((int) it[0], (int) it[1], 0), it[2]);
            check.due("mean by " + it[0], x.mean((int) it[0], (int) it[1], 1), it[3]);
        }
        GeyserNerves two = Check.of("plain 4 0;plain 4 9;hour 9 4;");
        check.due("above 1", two.mean(1, 1, 0), 11);
        check.due("above 1", two.mean(1, 1, 1), 10);
        check.due("3 by 2", two.mean(5, 1, 0), 3);
        check.due("3 by 2", two.mean(5, 1, 1), 2);
    }
}
