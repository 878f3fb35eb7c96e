import java.math.BigInteger;

/** Boundaries of what was seen and of seasons: promises 31 to 36. */
public final class BoundsOfSeenTest {
    private static final int BAD = Check.BAD, STATE = Check.STATE, FULL = Check.FULL, NONE = Check.NONE;
    private static final int FAR = Check.FAR, LOW = Check.LOW;
    private static final int[] NO_GEYSER = {-1, 3, 4, LOW, FAR};
    private static final Check.Maker RICH = Check::rich, BRIM = Check::full;
    private static final Check check = new Check();

    public static void main(String[] args) {
        seeBad();
        seeFull();
        seeAtBounds();
        forgets();
        forgetsTheFirstAlone();
        kindsBad();
        kindsAtBounds();
        nervesAtBounds();
        goneGeysers();
        askBad();
        askAtBounds();
        askFewerThanNow();
        askTheFirst();
        seasonBad();
        seasonState();
        seasonAtBounds();
        seasonSeeds();
        seasonByThePlan();
        check.end();
    }

    // ---- promises 31 and 32

    private static void seeBad() {
        check.by("Promise 31: BAD");
        for (Check.Maker maker : new Check.Maker[] {RICH, BRIM}) {
            for (int n : new int[] {-1, 41, LOW, FAR}) {
                check.keeps("see(" + n + ", 0, 1)", maker, x -> x.see(n, 0, 1), BAD);
            }
            for (int v : new int[] {-1, 2, LOW, FAR}) {
                check.keeps("see(0, 0, " + v + ")", maker, x -> x.see(0, 0, v), BAD);
            }
        }
        for (int g : NO_GEYSER) {
            check.keeps("see(0, " + g + ", 1)", RICH, x -> x.see(0, g, 1), BAD);
        }
        check.keeps("see(0, 4, 1)", BRIM, x -> x.see(0, 4, 1), BAD);
    }

    private static void seeFull() {
        check.by("Promise 31: FULL; SEEN (6)");
        GeyserNerves x = Check.of("plain 8 0;");
        for (int i = 1; i <= 6; i++) {
            check.due("see, " + i, x.see(i, 0, 1), i);
        }
        check.due("see, 7", x.see(7, 0, 1), FULL);
        check.due("SEEN", x.count(0), 6);
        check.keeps("the 7th", BRIM, it -> it.see(0, 0, 0), FULL);
        check.keeps("the 7th", BRIM, it -> it.see(40, 3, 1), FULL);
        x.forget(5);
        check.due("the 6th again", x.see(7, 0, 1), 6);
        check.due("the 7th again", x.see(7, 0, 1), FULL);
    }

    private static void seeAtBounds() {
        check.by("Promise 31: in HOUR n (0 to 40) a GEYSER goes UP (v 1), or does not (0): how many are");
        for (int n : new int[] {0, 1, 39, 40}) {
            for (int v = 0; v < 2; v++) {
                GeyserNerves x = Check.of("plain 8 0;hour 9 4;hour 0 4;");
                check.due("see(" + n + ", 0, " + v + ")", x.see(n, 0, v), 1);
                check.due("all is so", x.kinds(0) & 1, (x.ups(n) & 1) == v ? 1 : 0);
            }
        }
        GeyserNerves x = Check.full();
        x.forget(0);
        check.due("see(0, 3, 0)", x.see(0, 3, 0), 1);
        check.due("see(0, 3, 0) twice", x.see(0, 3, 0), 2);
        check.due("see(0, 3, 1) against it", x.see(0, 3, 1), 3);
        check.due("what can not be", x.nerves(3), 0);
    }

    private static void forgets() {
        check.by("Promise 32: BAD");
        for (int n : new int[] {-1, 3, 6, LOW, FAR}) {
            check.keeps("forget(" + n + ") of 2", RICH, x -> x.forget(n), BAD);
        }
        for (int n : new int[] {-1, 7, LOW, FAR}) {
            check.keeps("forget(" + n + ") of 6", BRIM, x -> x.forget(n), BAD);
        }
        check.keeps("forget(2) of 2", RICH, x -> x.forget(2), 2);
        check.keeps("forget(6) of 6", BRIM, x -> x.forget(6), 6);
    }

    private static void forgetsTheFirstAlone() {
        check.by("Promise 32: SEEN are the first n alone: how many there were");
        for (int n = 0; n <= 3; n++) {
            GeyserNerves x = Check.of("plain 8 0;hour 9 4;");
            x.see(0, 0, 0);
            x.see(1, 0, 1);
            x.see(1, 0, 0);
            check.due("forget(" + n + ")", x.forget(n), 3);
            check.due("SEEN", x.count(0), n);
            // HEAT 16 in HOUR 1, FRET 2 times 9 less NERVE: 8 at most by NERVES 5 and more.
            check.due("nerves(0)", x.nerves(0), new int[] {1023, 511, 480, 0}[n]);
            check.due("forget(" + n + ") again", x.forget(n), n);
            check.due("forget(" + (n + 1) + ") then", x.forget(n + 1), BAD);
        }
    }

    // ---- promises 33 and 34

    private static void kindsBad() {
        check.by("Promises 33, 34: BAD");
        for (int g : NO_GEYSER) {
            check.keeps("kinds(" + g + ")", RICH, x -> x.kinds(g), BAD);
            check.keeps("nerves(" + g + ")", RICH, x -> x.nerves(g), BAD);
        }
        check.keeps("kinds(4)", BRIM, x -> x.kinds(4), BAD);
        check.keeps("nerves(4)", BRIM, x -> x.nerves(4), BAD);
    }

    private static GeyserNerves saw(String text, int... seen) {
        GeyserNerves x = Check.of(text);
        for (int i = 0; i < seen.length; i += 3) {
            x.see(seen[i], seen[i + 1], seen[i + 2]);
        }
        return x;
    }

    private static void kindsAtBounds() {
        check.by("Promise 33: KINDS of a GEYSER (bits) by which all is as SEEN");
        String text = "plain 8 8;flow 9;hour 9 4;";
        check.keeps("nothing SEEN", () -> saw(text), x -> x.kinds(0), 15);
        // FRET by KIND: 1, 2, 3, 8, and a spare of 1.
        check.keeps("UP", () -> saw(text, 0, 0, 1), x -> x.kinds(0), 1);
        check.keeps("not UP", () -> saw(text, 0, 0, 0), x -> x.kinds(0), 14);
        check.keeps("both", () -> saw(text, 0, 0, 1, 0, 0, 0), x -> x.kinds(0), 0);
        check.keeps("UP in HOUR 1, not in HOUR 0", () -> saw(text, 0, 0, 0, 1, 0, 1), x -> x.kinds(0), 6);
        // HEAT 18 in HOUR 1 is less than 8 and 16 of a faint one.
        check.keeps("in neither", () -> saw(text, 0, 0, 0, 1, 0, 0), x -> x.kinds(0), 8);
        check.keeps("of another", () -> saw("plain 4 9;plain 4 9;", 0, 1, 1), x -> x.kinds(0), 15);
        check.keeps("of another", () -> saw("plain 4 9;plain 4 9;", 0, 1, 0), x -> x.kinds(0), 0);
    }

    private static void nervesAtBounds() {
        check.by("Promise 34: NERVES of a GEYSER (bits 0 to 9) by which all is as SEEN");
        String text = "plain 8 5;hour 9 4;";
        check.keeps("nothing SEEN", () -> saw(text), x -> x.nerves(0), 1023);
        check.keeps("UP: NERVE 9 alone", () -> saw(text, 0, 0, 1), x -> x.nerves(0), 512);
        check.keeps("not UP: all others", () -> saw(text, 0, 0, 0), x -> x.nerves(0), 511);
        check.keeps("both", () -> saw(text, 0, 0, 1, 0, 0, 0), x -> x.nerves(0), 0);
        String one = "plain 21 4;flow 1;hour 1 4;";
        check.keeps("UP in HOUR 40: NERVE 0 alone", () -> saw(one, 40, 0, 1), x -> x.nerves(0), 1);
        check.keeps("not UP in HOUR 40", () -> saw(one, 40, 0, 0), x -> x.nerves(0), 1022);
        check.keeps("UP in HOUR 20", () -> saw(one, 20, 0, 1), x -> x.nerves(0), 1022);
        check.due("the NERVE is as it was", saw(one, 40, 0, 1).geyser(0, 2), 4);
        check.by("Terms: HOUR n from now on");
        GeyserNerves x = saw("plain 16 9;hour 9 4;", 1, 0, 1);
        check.due("up in HOUR 1", x.nerves(0), 512);
        x.hours(1);
        check.due("up in HOUR 1 from then on", x.nerves(0), 480);
    }

    private static void goneGeysers() {
        check.by("Promise 33: (A GEYSER that is there no more never goes UP.)");
        for (int v = 0; v < 2; v++) {
            GeyserNerves x = saw("plain 4 9;plain 1 9;flow 40;", 0, 1, v);
            x.cut(1);
            check.due("SEEN stays", x.count(0), 1);
            check.due("kinds(0) of v " + v, x.kinds(0), v == 0 ? 15 : 0);
            check.due("nerves(0) of v " + v, x.nerves(0), v == 0 ? 1023 : 0);
            check.due("ask(0, 0)", x.ask(0, 0), NONE);
            check.due("see(0, 1, 0) of it", x.see(0, 1, 0), BAD);
            x.open(0, 1, 9);
            check.due("kinds(0), one is there again", x.kinds(0), v == 0 ? 0 : 15);
            check.due("nerves(0), one is there again", x.nerves(0), v == 0 ? 0 : 1023);
        }
        GeyserNerves last = saw("plain 1 9;plain 1 9;plain 1 9;plain 1 9;flow 40;", 40, 3, 0);
        check.due("it goes UP", last.kinds(0), 0);
        last.cut(3);
        check.due("it is there no more", last.kinds(0), 15);
    }

    // ---- promise 35

    private static void askBad() {
        check.by("Promise 35: BAD");
        for (int g : NO_GEYSER) {
            check.keeps("ask(" + g + ", 0)", RICH, x -> x.ask(g, 0), BAD);
        }
        check.keeps("ask(4, 0)", BRIM, x -> x.ask(4, 0), BAD);
        for (int what : new int[] {-1, 2, LOW, FAR}) {
            check.keeps("ask(0, " + what + ")", RICH, x -> x.ask(0, what), BAD);
        }
    }

    private static void askAtBounds() {
        check.by("Promise 35: the HOUR (0 to 40) in which to look");
        // NERVE 0 goes UP in HOUR 2 * (NEED - 1) at the earliest, all others in HOUR NEED - 1.
        String text = " 4;flow 1;hour 1 4;";
        check.keeps("HOUR 0", () -> saw("plain 1" + text), x -> x.ask(0, 0), 0);
        check.keeps("HOUR 39", () -> saw("plain 40" + text), x -> x.ask(0, 0), 39);
        check.keeps("HOUR 40", () -> saw("plain 41" + text), x -> x.ask(0, 0), 40);
        check.keeps("HOUR 40, how many", () -> saw("plain 41" + text), x -> x.ask(0, 1), 9);
        check.keeps("HOUR 41", () -> saw("plain 42" + text), x -> x.ask(0, 0), NONE);
        check.keeps("HOUR 41, how many", () -> saw("plain 42" + text), x -> x.ask(0, 1), NONE);
    }

    private static void askFewerThanNow() {
        check.by("Promise 35: fewest are left at the worst, fewer than now; NONE: none");
        String text = "plain 8 5;hour 5 4;";
        check.keeps("5 of 10", () -> saw(text), x -> x.ask(0, 0), 0);
        check.keeps("5 of 10", () -> saw(text), x -> x.ask(0, 1), 5);
        check.keeps("5 of which all do alike", () -> saw(text, 0, 0, 1), x -> x.ask(0, 0), NONE);
        check.keeps("5 of which all do alike", () -> saw(text, 0, 0, 1), x -> x.ask(0, 1), NONE);
        check.keeps("none of 0", () -> saw(text, 0, 0, 1, 0, 0, 0), x -> x.ask(0, 0), NONE);
        check.keeps("none of 1", () -> saw("plain 8 5;hour 9 4;", 0, 0, 1), x -> x.ask(0, 0), NONE);
        check.keeps("nobody ever comes", () -> saw("plain 8 5;"), x -> x.ask(0, 0), NONE);
        // NERVE 9 goes UP in HOURS 2, 5, .., NERVE 7 in HOURS 5, 11, ..: 1 is fewer than 2.
        GeyserNerves two = saw("plain 12 5;flow 4;hour 9 4;", 5, 0, 1);
        check.due("NERVES 7 and 9", two.nerves(0), 640);
        check.due("how many of 2", two.ask(0, 1), 1);
        check.due("in HOUR", two.ask(0, 0), 2);
        // NERVES 0 to 6 go UP in HOURS 7, 15, .., NERVE 8 in HOURS 3, 7, ..: what was left before does not count.
        GeyserNerves again = saw("plain 12 5;flow 4;hour 9 4;");
        check.due("how many of 10, by NERVES 7 to 9 in HOUR 11", again.ask(0, 1), 7);
        check.due("in HOUR", again.ask(0, 0), 11);
        again.see(7, 0, 1);
        check.due("NERVES 0 to 6, 8", again.nerves(0), 383);
        check.due("how many of 8", again.ask(0, 1), 7);
        check.due("in HOUR", again.ask(0, 0), 3);
    }

    private static void askTheFirst() {
        check.by("Promise 35: the first");
        GeyserNerves x = saw("plain 8 5;hour 5 4;hour 0 4;hour 0 4;hour 0 4;hour 0 4;");
        check.due("HOUR 0, not 5", x.ask(0, 0), 0);
        GeyserNerves later = saw("plain 8 5;hour 0 4;hour 0 4;hour 5 4;");
        check.due("HOUR 2, not 5", later.ask(0, 0), 2);
        check.due("5 of 10", later.ask(0, 1), 5);
        GeyserNerves better = saw("plain 8 5;hour 1 4;hour 0 4;hour 0 4;hour 5 4;hour 0 4;hour 0 4;");
        check.due("HOUR 3 leaves fewer than HOUR 0", better.ask(0, 0), 3);
    }

    // ---- promise 36

    private static void seasonBad() {
        check.by("Promise 36: n HOURS (1 to 200); BAD");
        for (Check.Maker maker : new Check.Maker[] {RICH, GeyserNerves::new}) {
            for (int n : new int[] {-1, 0, 201, LOW, FAR}) {
                check.keeps("season(1, " + n + ", 0)", maker, x -> x.season(1, n, 0), BAD);
            }
            for (int what : new int[] {-1, 2, LOW, FAR}) {
                check.keeps("season(1, 1, " + what + ")", maker, x -> x.season(1, 1, what), BAD);
            }
        }
    }

    private static void seasonState() {
        check.by("Promise 36: STATE: there are no GEYSERS");
        for (int seed : new int[] {0, 1, -1, LOW, FAR}) {
            for (int n : new int[] {1, 200}) {
                check.keeps("season(" + seed + ", " + n + ", 0)", GeyserNerves::new, x -> x.season(seed, n, 0), STATE);
                check.keeps("season(" + seed + ", " + n + ", 1)", GeyserNerves::new, x -> x.season(seed, n, 1), STATE);
            }
        }
        GeyserNerves x = Check.full();
        x.cut(1);
        check.due("with one GEYSER", x.season(1, 1, 0) >= 0 ? 1 : 0, 1);
        x.cut(0);
        check.due("with none", x.season(1, 1, 0), STATE);
    }

    private static void seasonAtBounds() {
        check.by("Promise 36: how many times GEYSERS go UP in them, FRETS in the end, summed");
        Check.Maker always = () -> Check.of("plain 4 9;plain 4 9;");
        for (int n : new int[] {1, 2, 199, 200}) {
            check.keeps("season(1, " + n + ", 0)", always, x -> x.season(1, n, 0), 2 * n);
            check.keeps("season(1, " + n + ", 1)", always, x -> x.season(1, n, 1), 0);
        }
        // The seed 1 gets 16838, 5758, 10113, 17515, 31051: 8, 8, 3, 5, 1 WATCHERS.
        Check.Maker never = () -> Check.of("plain 60 0;plain 60 7;flow 0;");
        int[] due = {8 + 1, 16 + 2, 19 + 2, 20 + 2, 20 + 2};
        for (int i = 0; i < due.length; i++) {
            int n = i + 1;
            check.keeps("season(1, " + n + ", 1)", never, x -> x.season(1, n, 1), due[i]);
        }
        check.keeps("season(1, 200, 0)", never, x -> x.season(1, 200, 0), 0);
    }

    /** WATCHERS of the first HOUR by a seed, reckoned without an int that comes round. */
    private static int firstWatchers(int seed) {
        BigInteger grown = BigInteger.valueOf(seed).multiply(BigInteger.valueOf(1103515245)).add(BigInteger.valueOf(12345));
        return grown.shiftRight(16).mod(BigInteger.valueOf(32768)).intValue() % 10;
    }

    private static void seasonSeeds() {
        check.by("Promise 36: the seed becomes seed times 1103515245 and 12345; bits 16 to 30 of it are got");
        Check.Maker shy = () -> Check.of("plain 60 0;flow 0;");
        check.due("seed 0", firstWatchers(0), 0);
        check.due("seed -1 gets 15929", firstWatchers(-1), 9);
        check.due("seed 1 gets 16838", firstWatchers(1), 8);
        int[] seeds = {0, 1, -1, 2, -2, 3, 7, -3, 65535, 65536, -65536, LOW, LOW + 1, FAR, FAR - 1, 1103515245, -12345};
        for (int seed : seeds) {
            check.keeps("season(" + seed + ", 1, 1)", shy, x -> x.season(seed, 1, 1), firstWatchers(seed));
        }
        check.by("Promise 36: bits 16 to 30, so that bit 31 is none of them");
        GeyserNerves x = Check.of("plain 20 3;shy 14 5;sulky 30 2;faint 9 8;flow 17;calm 6;hour 9 0;hour 0 2;");
        for (int seed : seeds) {
            for (int n : new int[] {1, 50, 200}) {
                check.due("season(" + seed + ", " + n + ", 0)", x.season(seed, n, 0), x.season(seed ^ LOW, n, 0));
                check.due("season(" + seed + ", " + n + ", 1)", x.season(seed, n, 1), x.season(seed ^ LOW, n, 1));
            }
        }
    }

    private static void seasonByThePlan() {
        check.by("Promise 36: (THE ACTOR is where THE PLAN tells)");
        GeyserNerves x = Check.of("plain 60 0;flow 0;calm 5;hour 9 0;hour 9 4;");
        check.due("8 less 5", x.season(1, 1, 1), 3);
        check.due("8 more", x.season(1, 2, 1), 11);
        check.due("3 more less 5", x.season(1, 3, 1), 9);
        x.hours(1);
        x.alter(0, 4, 0);
        check.due("from HOUR 1 on: 8", x.season(1, 1, 1), 8);
        check.due("8 more less 5", x.season(1, 2, 1), 11);
        x.drop(0);
        check.due("without ROWS he is with nobody", x.season(1, 2, 1), 16);
        check.due("HOUR is as it was", x.rule(2), 1);
    }
}
