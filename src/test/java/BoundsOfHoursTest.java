/** Boundaries of an hour and of hours run or looked ahead: promises 16 to 21 with their terms. */
public final class BoundsOfHoursTest {
    private static final int BAD = Check.BAD, FULL = Check.FULL, NONE = Check.NONE;
    private static final int FAR = Check.FAR, LOW = Check.LOW;
    private static final int[] NOT_AHEAD = {-1, 201, 202, LOW, FAR};
    private static final Check.Maker RICH = Check::rich, BRIM = Check::full;
    private static final Check check = new Check();

    public static void main(String[] args) {
        shares();
        minds();
        fades();
        fadesWithoutWatchersAlone();
        rowOfAnHour();
        noRows();
        heatAtMost();
        fretAtMost();
        fretAtLeast();
        calmsHimWhoseTurnItIs();
        goesUpByJustEnough();
        whatIsLeftBehind();
        hoursAtBounds();
        hoursFull();
        hoursAreRun();
        runsAtBounds();
        runsSeenAndInVain();
        runsNowToo();
        aheadAtBounds();
        upsAtBounds();
        upsAreBits();
        whenAtBounds();
        againAtBounds();
        againIsOfAll();
        check.end();
    }

    // ---- terms

    private static void shares() {
        check.by("Terms: SHARE: FLOW by GEYSERS (down), 1 more for so many of the first ones as are left over");
        for (int many = 1; many <= 4; many++) {
            GeyserNerves x = new GeyserNerves();
            for (int g = 0; g < many; g++) {
                x.open(g, 60, 9);
            }
            for (int flow : new int[] {0, 1, 2, 3, 4, 5, 6, 7, 8, 37, 38, 39, 40}) {
                x.tell(0, flow);
                for (int g = 0; g < many; g++) {
                    // Of flow laid out one by one in turn, those that fall to g.
                    int due = (flow - g + many - 1) / many;
                    check.due("SHARE of " + g + " of " + many + " by " + flow, x.geyser(g, 6), due);
                    check.due("HEAT by " + flow, x.ahead(g, 1, 0), due);
                }
            }
        }
        GeyserNerves x = Check.of("plain 60 9;plain 60 9;plain 60 9;plain 60 9;flow 7;");
        int[][] due = {{}, {7}, {4, 3}, {3, 2, 2}, {2, 2, 2, 1}};
        for (int many = 4; many > 0; many--) {
            x.cut(many);
            for (int g = 0; g < many; g++) {
                check.due("SHARE of " + g + " of " + many, x.geyser(g, 6), due[many][g]);
            }
        }
    }

    private static void minds() {
        check.by("Terms: MINDS (0 at least; if there are any; if there are 9)");
        // By NERVE and WATCHERS: plain, shy, sulky, faint.
        int[][] due = {{0, 0, 0, 0, 0, 0}, {0, 1, 1, 2, 3, 3}, {0, 8, 8, 16, 17, 17}, {0, 9, 9, 18, 19, 24},
            {1, 0, 0, 0, 0, 0}, {1, 1, 0, 0, 1, 1}, {1, 2, 1, 2, 3, 3}, {1, 9, 8, 16, 17, 22},
            {5, 0, 0, 0, 0, 0}, {5, 1, 0, 0, 1, 1}, {5, 4, 0, 0, 1, 1}, {5, 5, 0, 0, 1, 1}, {5, 6, 1, 2, 3, 3},
            {8, 7, 0, 0, 1, 1}, {8, 8, 0, 0, 1, 1}, {8, 9, 1, 2, 3, 8},
            {9, 0, 0, 0, 0, 0}, {9, 1, 0, 0, 1, 1}, {9, 8, 0, 0, 1, 1}, {9, 9, 0, 0, 1, 6}};
        GeyserNerves x = Check.of("plain 60 0;shy 60 0;sulky 60 0;faint 60 0;flow 0;hour 0 4;");
        for (int[] it : due) {
            x.set(0, 0, it[1]);
            for (int g = 0; g < 4; g++) {
                x.alter(g, 2, it[0]);
                check.due(g + " by " + it[0] + ", " + it[1], x.geyser(g, 7), it[2 + g]);
                check.due("FRET of " + g + " then", x.ahead(g, 1, 1), Math.min(20, it[2 + g]));
            }
        }
    }

    private static void fades() {
        check.by("Terms: FADES by KIND: plain 2; shy 1; sulky, faint 0");
        GeyserNerves x = Check.of("plain 60 0;shy 60 0;sulky 60 0;faint 60 0;flow 0;hour 0 4;");
        int[][] due = {{20, 18, 19, 20, 20}, {3, 1, 2, 3, 3}, {2, 0, 1, 2, 2}, {1, 0, 0, 1, 1}, {0, 0, 0, 0, 0}};
        for (int[] it : due) {
            for (int g = 0; g < 4; g++) {
                x.alter(g, 4, it[0]);
                check.due("FRET " + it[0] + " of " + g, x.ahead(g, 1, 1), it[1 + g]);
            }
        }
    }

    private static void fadesWithoutWatchersAlone() {
        check.by("Terms: less by what FADES, if there are no WATCHERS");
        GeyserNerves x = Check.of("plain 60 9;shy 60 9;flow 0;hour 1 4;");
        x.alter(0, 4, 5);
        x.alter(1, 4, 5);
        check.due("plain, with 1", x.ahead(0, 1, 1), 5);
        check.due("shy, with 1", x.ahead(1, 1, 1), 5);
        x.set(0, 0, 0);
        check.due("plain, without", x.ahead(0, 1, 1), 3);
        check.due("shy, without", x.ahead(1, 1, 1), 4);
    }

    private static void rowOfAnHour() {
        check.by("Terms: the ROW whose number HOUR leaves by ROWS");
        for (int rows : new int[] {1, 2, 5, 11, 12}) {
            GeyserNerves x = new GeyserNerves();
            for (int i = 0; i < rows; i++) {
                x.add(i % 10, i % 5);
            }
            for (int hour = 0; hour < 27; hour++) {
                int i = hour % rows;
                check.due("WATCHERS of HOUR " + hour + " by " + rows, x.rule(6), i % 10);
                check.due("the actor in HOUR " + hour + " by " + rows, x.rule(7), i % 5 == 4 ? NONE : i % 5);
                x.hours(1);
            }
        }
        GeyserNerves x = new GeyserNerves();
        for (int i = 0; i < 7; i++) {
            x.add(i, 4);
        }
        for (int i = 0; i < 99; i++) {
            x.hours(100);
        }
        x.hours(99);
        check.due("WATCHERS of HOUR 9999 by 7", x.rule(6), 9999 % 7);
        check.due("HOUR 10000, looked ahead", x.runs(2, 2), 9999 % 7 + 10000 % 7);
        x.drop(4);
        check.due("WATCHERS of HOUR 9999 by 4", x.rule(6), 3);
        check.due("HOURS 9999 to 10198 by 4", x.runs(200, 2), 300);
    }

    private static void noRows() {
        check.by("Terms: (none, nobody, if there are no ROWS)");
        GeyserNerves x = Check.of("faint 60 0;flow 1;calm 20;");
        x.alter(0, 4, 7);
        check.due("FRET: nobody comes, nobody calms", x.ahead(0, 1, 1), 7);
        check.due("it MINDS none", x.geyser(0, 7), 0);
        check.due("WATCHERS in vain", x.runs(200, 2), 0);
        x.alter(0, 0, 0);
        check.due("FRET fades", x.ahead(0, 1, 1), 5);
    }

    private static void heatAtMost() {
        check.by("Terms: HEAT is more by its SHARE (199 at most)");
        GeyserNerves x = Check.of("plain 60 0;flow 40;hour 9 4;");
        for (int heat : new int[] {158, 159, 160, 198, 199}) {
            x.alter(0, 3, heat);
            check.due("UP from " + heat, x.ahead(0, 1, 2), 1);
            check.due("HEAT then", x.ahead(0, 1, 0), 0);
            check.due("the greatest HEAT", x.runs(1, 4), heat);
        }
        x.alter(0, 4, 20);
        x.alter(0, 3, 39);
        check.due("79 without going UP", x.runs(1, 4), 79);
        x.alter(0, 3, 40);
        check.due("80 goes UP", x.runs(1, 4), 40);
        x.tell(0, 0);
        x.alter(0, 3, 199);
        check.due("UP from 199 by no FLOW", x.ahead(0, 1, 2), 1);
        x.alter(0, 3, 79);
        check.due("79 is too little", x.ahead(0, 1, 0), 79);
        x.alter(0, 3, 80);
        check.due("80 is enough", x.ahead(0, 1, 0), 0);
    }

    private static void fretAtMost() {
        check.by("Terms: FRET is more by what it MINDS (20 at most)");
        GeyserNerves x = Check.of("plain 60 8;shy 60 0;flow 0;calm 5;hour 9 4;");
        int[][] plain = {{18, 19}, {19, 20}, {20, 20}, {0, 1}};
        for (int[] it : plain) {
            x.alter(0, 4, it[0]);
            check.due("FRET " + it[0] + " and 1", x.ahead(0, 1, 1), it[1]);
        }
        int[][] shy = {{0, 18}, {1, 19}, {2, 20}, {3, 20}, {20, 20}};
        for (int[] it : shy) {
            x.alter(1, 4, it[0]);
            check.due("FRET " + it[0] + " and 18", x.ahead(1, 1, 1), it[1]);
        }
        check.by("Terms: in the order told");
        x.set(0, 1, 1);
        int[][] calmed = {{0, 13}, {1, 14}, {2, 15}, {3, 15}, {20, 15}};
        for (int[] it : calmed) {
            x.alter(1, 4, it[0]);
            check.due("FRET " + it[0] + " and 18, less 5", x.ahead(1, 1, 1), it[1]);
        }
    }

    private static void fretAtLeast() {
        check.by("Terms: (0 at least each)");
        GeyserNerves x = Check.of("plain 60 9;flow 0;calm 5;hour 0 0;");
        int[][] due = {{20, 13}, {8, 1}, {7, 0}, {6, 0}, {5, 0}, {4, 0}, {0, 0}};
        for (int[] it : due) {
            x.alter(0, 4, it[0]);
            check.due("FRET " + it[0] + " less 5, less 2", x.ahead(0, 1, 1), it[1]);
        }
        x.set(0, 0, 1);
        int[][] watched = {{20, 15}, {6, 1}, {5, 0}, {4, 0}, {0, 0}};
        for (int[] it : watched) {
            x.alter(0, 4, it[0]);
            check.due("FRET " + it[0] + " less 5", x.ahead(0, 1, 1), it[1]);
        }
        x.tell(1, 20);
        x.alter(0, 4, 20);
        check.due("FRET 20 less 20", x.ahead(0, 1, 1), 0);
        x.tell(1, 0);
        check.due("FRET 20 less 0", x.ahead(0, 1, 1), 20);
        x.alter(0, 2, 0);
        x.set(0, 0, 9);
        x.tell(1, 20);
        x.alter(0, 4, 0);
        check.due("FRET 9 less 20", x.ahead(0, 1, 1), 0);
        check.due("FRET 0 of the next HOUR is not below", x.ahead(0, 2, 1), 0);
    }

    private static void calmsHimWhoseTurnItIs() {
        check.by("Terms: less by what THE ACTOR CALMS, if he is with it");
        GeyserNerves x = Check.of("sulky 60 9;sulky 60 9;sulky 60 9;sulky 60 9;flow 0;calm 6;hour 0 0;");
        for (int whom = 0; whom < 5; whom++) {
            x.set(0, 1, whom);
            for (int g = 0; g < 4; g++) {
                x.alter(g, 4, 10);
                check.due("FRET of " + g + ", he is with " + whom, x.ahead(g, 1, 1), g == whom ? 4 : 10);
            }
        }
        x.cut(3);
        x.set(0, 1, 3);
        check.due("with a GEYSER that is not there", x.runs(1, 3), 30);
    }

    private static void goesUpByJustEnough() {
        check.by("Terms: it goes UP, if HEAT is as much as NEED and FRET, or more");
        GeyserNerves x = Check.of("sulky 30 0;flow 1;hour 0 4;");
        int[][] due = {{28, 0, 0}, {29, 0, 1}, {30, 0, 1}, {33, 5, 0}, {34, 5, 1}, {35, 5, 1}, {48, 20, 0}, {49, 20, 1}};
        for (int[] it : due) {
            x.alter(0, 3, it[0]);
            x.alter(0, 4, it[1]);
            check.due("HEAT " + it[0] + " and 1, FRET " + it[1], x.ups(0), it[2]);
        }
        GeyserNerves least = Check.of("plain 1 0;flow 1;");
        check.due("NEED 1, HEAT 1", least.ups(0), 1);
        least.tell(0, 0);
        check.due("NEED 1, HEAT 0", least.ups(0), 0);
    }

    private static void whatIsLeftBehind() {
        check.by("Terms: it WENT 1 more, HEAT, FRET are 0. HOUR is 1 more");
        GeyserNerves x = Check.of("sulky 30 0;flow 1;hour 0 4;");
        x.alter(0, 3, 33);
        x.alter(0, 4, 5);
        check.due("hours(1)", x.hours(1), 0);
        check.due("HEAT", x.geyser(0, 3), 34);
        check.due("FRET", x.geyser(0, 4), 5);
        check.due("WENT", x.geyser(0, 5), 0);
        check.due("hours(1)", x.hours(1), 1);
        check.due("HEAT", x.geyser(0, 3), 0);
        check.due("FRET", x.geyser(0, 4), 0);
        check.due("WENT", x.geyser(0, 5), 1);
        check.due("HOUR", x.rule(2), 2);
    }

    // ---- promise 16

    private static void hoursAtBounds() {
        check.by("Promise 16: n HOURS (0 to 100); BAD");
        for (int n : new int[] {-1, 101, 200, LOW, FAR, LOW + 1}) {
            check.keeps("hours(" + n + ")", RICH, x -> x.hours(n), BAD);
            check.keeps("hours(" + n + ")", BRIM, x -> x.hours(n), BAD);
        }
        check.keeps("hours(0)", RICH, x -> x.hours(0), 0);
        GeyserNerves x = Check.of("plain 8 9;");
        for (int n : new int[] {1, 99, 100}) {
            check.due("hours(" + n + ")", x.hours(n), n);
        }
        check.due("HOUR", x.rule(2), 200);
        check.due("WENT", x.rule(5), 200);
    }

    private static GeyserNerves late() {
        GeyserNerves x = Check.of("plain 8 9;");
        for (int i = 0; i < 99; i++) {
            x.hours(100);
        }
        return x;
    }

    private static void hoursFull() {
        check.by("Promise 16: FULL: HOUR would be 10000 or more");
        Check.Maker late = BoundsOfHoursTest::late;
        check.keeps("hours(100) from 9900", late, x -> x.hours(100), FULL);
        check.keeps("hours(101) from 9900", late, x -> x.hours(101), BAD);
        check.keeps("hours(-1) from 9900", late, x -> x.hours(-1), BAD);
        check.due("hours(99) from 9900", late().hours(99), 99);
        Check.Maker last = () -> {
            GeyserNerves x = late();
            x.hours(99);
            return x;
        };
        check.keeps("hours(0) from 9999", last, x -> x.hours(0), 0);
        check.keeps("hours(1) from 9999", last, x -> x.hours(1), FULL);
        check.keeps("hours(100) from 9999", last, x -> x.hours(100), FULL);
        check.keeps("hours(101) from 9999", last, x -> x.hours(101), BAD);
        check.keeps("rule(2)", last, x -> x.rule(2), 9999);
        check.keeps("runs(200, 0) from 9999", last, x -> x.runs(200, 0), 200);
        check.keeps("ups(200) from 9999", last, x -> x.ups(200), 1);
        GeyserNerves back = late();
        back.keep(0);
        back.hours(99);
        check.due("back(0)", back.back(0), 9900);
        check.due("hours(99) again", back.hours(99), 99);
    }

    private static void hoursAreRun() {
        check.by("Promise 16: how many times GEYSERS go UP in them");
        GeyserNerves x = Check.of("plain 8 9;plain 24 9;flow 16;");
        check.due("hours(2)", x.hours(2), 2);
        check.due("hours(1)", x.hours(1), 2);
        check.due("hours(6)", x.hours(6), 8);
        check.due("WENT of 0", x.geyser(0, 5), 9);
        check.due("WENT of 1", x.geyser(1, 5), 3);
    }

    // ---- promises 17 and 18

    private static void runsAtBounds() {
        check.by("Promise 17: n of them (0 to 200); BAD");
        for (int what = 0; what < 5; what++) {
            for (int n : NOT_AHEAD) {
                int w = what;
                check.keeps("runs(" + n + ", " + what + ")", RICH, x -> x.runs(n, w), BAD);
            }
        }
        for (int what : new int[] {-1, 5, LOW, FAR}) {
            check.keeps("runs(0, " + what + ")", RICH, x -> x.runs(0, what), BAD);
            check.keeps("runs(200, " + what + ")", RICH, x -> x.runs(200, what), BAD);
        }
        // It goes UP in every 4th HOUR, 5 WATCHERS in each, FRET grows by 1 to 3.
        Check.Maker maker = () -> Check.of("plain 8 4;flow 3;hour 5 4;");
        int[][] due = {{0, 0, 0, 0, 0, 0}, {1, 0, 0, 5, 1, 3}, {3, 0, 0, 15, 3, 9}, {4, 1, 5, 15, 0, 9},
            {199, 49, 245, 750, 3, 9}, {200, 50, 250, 750, 0, 9}};
        for (int[] it : due) {
            for (int what = 0; what < 5; what++) {
                int w = what;
                check.keeps("runs(" + it[0] + ", " + what + ")", maker, x -> x.runs(it[0], w), it[1 + what]);
            }
        }
    }

    private static void runsSeenAndInVain() {
        check.by("Promise 17: WATCHERS of HOURS in which any does, in which none does");
        GeyserNerves x = Check.of("plain 16 9;plain 24 9;flow 16;hour 1 4;hour 2 4;hour 4 4;hour 8 4;hour 9 4;hour 3 4;");
        check.due("any, in HOURS 1, 2, 3, 5", x.runs(6, 1), 17);
        check.due("none, in HOURS 0, 4", x.runs(6, 2), 10);
        check.due("UP", x.runs(6, 0), 5);
        check.due("both at once are one HOUR", x.runs(6, 1) - x.runs(5, 1), 3);
    }

    private static void runsNowToo() {
        check.by("Promise 17: the greatest HEAT of any GEYSER behind any of them, now too");
        GeyserNerves x = Check.of("plain 8 9;plain 60 9;flow 0;");
        x.alter(0, 3, 199);
        x.alter(1, 3, 59);
        check.due("runs(0, 4)", x.runs(0, 4), 199);
        check.due("runs(1, 4)", x.runs(1, 4), 199);
        x.hours(1);
        check.due("runs(0, 4) then", x.runs(0, 4), 59);
        x.tell(0, 2);
        check.due("what goes UP is not behind any", x.runs(9, 4), 59);
        x.alter(1, 3, 0);
        check.due("the least that is behind one", x.runs(1, 4), 1);
        x.alter(0, 4, 9);
        check.due("FRETS now", x.runs(0, 3), 9);
        check.due("FRETS then", x.runs(1, 3), 7);
    }

    private static void aheadAtBounds() {
        check.by("Promise 18: n of them (0 to 200); BAD");
        for (int what = 0; what < 3; what++) {
            int w = what;
            for (int n : NOT_AHEAD) {
                check.keeps("ahead(0, " + n + ", " + what + ")", RICH, x -> x.ahead(0, n, w), BAD);
            }
            for (int g : new int[] {-1, 3, 4, LOW, FAR}) {
                check.keeps("ahead(" + g + ", 1, " + what + ")", RICH, x -> x.ahead(g, 1, w), BAD);
            }
            check.keeps("ahead(4, 1, " + what + ")", BRIM, x -> x.ahead(4, 1, w), BAD);
        }
        for (int what : new int[] {-1, 3, LOW, FAR}) {
            check.keeps("ahead(0, 1, " + what + ")", RICH, x -> x.ahead(0, 1, what), BAD);
        }
        Check.Maker maker = () -> Check.of("plain 1 9;plain 8 4;flow 6;hour 5 4;");
        int[][] due = {{0, 0, 0, 0}, {1, 3, 1, 0}, {3, 9, 3, 0}, {4, 0, 0, 1}, {199, 9, 3, 49}, {200, 0, 0, 50}};
        for (int[] it : due) {
            for (int what = 0; what < 3; what++) {
                int w = what;
                check.keeps("ahead(1, " + it[0] + ", " + what + ")", maker, x -> x.ahead(1, it[0], w), it[1 + what]);
            }
        }
        check.keeps("ahead(0, 200, 2)", maker, x -> x.ahead(0, 200, 2), 200);
    }

    // ---- promises 19 and 20

    private static void upsAtBounds() {
        check.by("Promise 19: HOUR n (0 to 200); BAD");
        for (int n : NOT_AHEAD) {
            check.keeps("ups(" + n + ")", RICH, x -> x.ups(n), BAD);
        }
        Check.Maker now = () -> Check.of("plain 8 9;");
        check.keeps("ups(0) is this one", now, x -> x.ups(0), 1);
        check.keeps("ups(1)", now, x -> x.ups(1), 1);
        Check.Maker third = () -> Check.of("plain 8 9;flow 3;");
        for (int n : new int[] {0, 1, 2, 3, 198, 199, 200}) {
            check.keeps("ups(" + n + ") by thirds", third, x -> x.ups(n), n % 3 == 2 ? 1 : 0);
        }
        check.keeps("ups(200) by 67ths", () -> Check.of("plain 47 0;flow 1;hour 9 4;"), x -> x.ups(200), 1);
        check.keeps("ups(199) by 67ths", () -> Check.of("plain 47 0;flow 1;hour 9 4;"), x -> x.ups(199), 0);
    }

    private static void upsAreBits() {
        check.by("Promise 19: which GEYSERS go UP (bits)");
        GeyserNerves x = Check.of("plain 2 9;plain 4 9;plain 6 9;plain 8 9;flow 8;");
        int[] due = {1, 3, 5, 11, 1, 7, 1, 11, 5, 3, 1, 15};
        for (int n = 0; n < due.length; n++) {
            check.due("ups(" + n + ")", x.ups(n), due[n]);
        }
    }

    /** FRET is 1 less in HOUR at and each 12th behind it: 17 times it must be, ere it goes UP. */
    private static GeyserNerves calmedIn(int at) {
        GeyserNerves x = Check.of("plain 5 9;flow 0;calm 1;");
        for (int i = 0; i < 12; i++) {
            x.add(9, i == at % 12 ? 0 : 4);
        }
        x.alter(0, 3, 5);
        x.alter(0, 4, 17);
        return x;
    }

    private static void whenAtBounds() {
        check.by("Promise 20: the first HOUR (0 to 200) in which a GEYSER goes UP; NONE: in none");
        check.keeps("in HOUR 0", () -> Check.of("plain 8 9;"), x -> x.when(0), 0);
        check.keeps("in HOUR 1", () -> Check.of("plain 9 9;"), x -> x.when(0), 1);
        check.keeps("in HOUR 199", () -> calmedIn(7), x -> x.when(0), 199);
        check.keeps("in HOUR 200", () -> calmedIn(8), x -> x.when(0), 200);
        check.keeps("in HOUR 201", () -> calmedIn(9), x -> x.when(0), NONE);
        check.due("ups(200)", calmedIn(8).ups(200), 1);
        GeyserNerves x = calmedIn(9);
        x.hours(1);
        check.due("an HOUR later it is HOUR 200", x.when(0), 200);
        check.due("200 HOURS later it is HOUR 0", x.hours(100) + x.hours(100) + x.when(0), 0);
        check.keeps("never", () -> Check.of("plain 1 9;flow 0;"), it -> it.when(0), NONE);
        check.by("Promise 20: BAD");
        for (int g : new int[] {-1, 3, 4, LOW, FAR}) {
            check.keeps("when(" + g + ")", RICH, it -> it.when(g), BAD);
        }
        check.keeps("when(4)", BRIM, it -> it.when(4), BAD);
        GeyserNerves two = Check.of("plain 4 9;plain 40 9;");
        check.due("when(0)", two.when(0), 0);
        check.due("when(1)", two.when(1), 9);
    }

    // ---- promise 21

    private static GeyserNerves rounds(String geyser, int rows, int watchers) {
        GeyserNerves x = Check.of(geyser);
        for (int i = 0; i < rows; i++) {
            x.add(watchers, 4);
        }
        return x;
    }

    private static void againAtBounds() {
        check.by("Promise 21: behind how many (1 to 200); NONE: behind none");
        check.keeps("behind 1", () -> Check.of("plain 8 9;"), x -> x.again(), 1);
        check.keeps("behind 2", () -> Check.of("plain 9 9;"), x -> x.again(), 2);
        check.keeps("behind 12", () -> rounds("plain 8 9;", 12, 0), x -> x.again(), 12);
        check.keeps("behind 198", () -> rounds("plain 18 9;flow 1;", 11, 0), x -> x.again(), 198);
        check.keeps("behind 200", () -> rounds("plain 25 9;flow 1;", 8, 0), x -> x.again(), 200);
        // NEED 47 and FRET 20: every 67 HOURS.
        check.keeps("behind 67", () -> rounds("plain 47 0;flow 1;", 1, 9), x -> x.again(), 67);
        check.keeps("behind 134", () -> rounds("plain 47 0;flow 1;", 2, 9), x -> x.again(), 134);
        check.keeps("behind 201", () -> rounds("plain 47 0;flow 1;", 3, 9), x -> x.again(), NONE);
        check.keeps("behind 204", () -> rounds("plain 17 9;flow 1;", 12, 0), x -> x.again(), NONE);
        check.keeps("never", () -> {
            GeyserNerves x = Check.of("plain 8 9;");
            x.alter(0, 3, 9);
            return x;
        }, x -> x.again(), NONE);
    }

    private static void againIsOfAll() {
        check.by("Promise 21: all HEATS, FRETS are as now, and it is the turn of the same ROW");
        check.due("two GEYSERS", Check.of("plain 4 9;plain 12 9;").again(), 3);
        check.due("a ROW more", rounds("plain 4 9;plain 12 9;", 2, 0).again(), 6);
        GeyserNerves fret = Check.of("sulky 60 9;flow 0;");
        fret.alter(0, 4, 5);
        check.due("FRET stays", fret.again(), 1);
        fret.alter(0, 0, 1);
        check.due("FRET fades", fret.again(), NONE);
        GeyserNerves x = Check.of("hour 1 1;hour 1 1;hour 1 1;");
        check.due("alike ROWS are not the same", x.again(), 3);
        x.hours(2);
        check.due("from HOUR 2", x.again(), 3);
        GeyserNerves went = Check.of("plain 8 9;");
        went.hours(5);
        check.due("WENT does not count", went.again(), 1);
        GeyserNerves cut = Check.of("plain 4 9;plain 60 9;");
        cut.hours(1);
        cut.again();
        cut.hours(1);
        cut.cut(1);
        cut.tell(0, 4);
        check.due("one that is there no more does not count", cut.again(), 1);
        check.due("one that is there no more does not count", cut.runs(9, 4), 0);
    }
}
