/** Boundaries of what is changed: promises 9 to 15 with their terms. */
public final class BoundsOfChangeTest {
    private static final int BAD = Check.BAD, FULL = Check.FULL;
    private static final int FAR = Check.FAR, LOW = Check.LOW;
    private static final Check.Maker RICH = Check::rich, BRIM = Check::full;
    private static final Check check = new Check();

    /** KIND, NEED, NERVE, HEAT, FRET: the least and the most of each. */
    private static final int[][] PARTS = {{0, 3}, {1, 60}, {0, 9}, {0, 199}, {0, 20}};

    public static void main(String[] args) {
        altersAtBounds();
        altersNoOther();
        altersBad();
        tellsAtBounds();
        tellsBad();
        setsAtBounds();
        setsBad();
        opensAtBounds();
        opensBad();
        opensFull();
        opensAnew();
        cuts();
        cutsTheFirstAlone();
        addsAtBounds();
        addsBad();
        addsFull();
        drops();
        dropsTheFirstAlone();
        check.end();
    }

    // ---- promise 9

    private static void altersAtBounds() {
        check.by("Promise 9: KIND, NEED, NERVE, HEAT, FRET of a GEYSER becomes v: what it was");
        for (int what = 0; what < PARTS.length; what++) {
            for (int g = 0; g < 4; g++) {
                GeyserNerves x = Check.full();
                int was = x.geyser(g, what);
                for (int v : new int[] {PARTS[what][0], PARTS[what][0] + 1, PARTS[what][1] - 1, PARTS[what][1]}) {
                    check.due("alter(" + g + ", " + what + ", " + v + ")", x.alter(g, what, v), was);
                    check.due("geyser(" + g + ", " + what + ")", x.geyser(g, what), v);
                    was = v;
                }
            }
        }
    }

    private static void altersNoOther() {
        check.by("Promise 9: of a GEYSER");
        for (int what = 0; what < PARTS.length; what++) {
            GeyserNerves x = Check.full();
            GeyserNerves twin = Check.full();
            x.alter(1, what, PARTS[what][1]);
            for (int g = 0; g < 4; g++) {
                for (int other = 0; other < 6; other++) {
                    if (g != 1 || other != what) {
                        check.due("geyser(" + g + ", " + other + ")", x.geyser(g, other), twin.geyser(g, other));
                    }
                }
            }
        }
        check.keeps("as it is", RICH, x -> x.alter(1, 1, 14), 14);
    }

    private static void altersBad() {
        check.by("Promise 9: BAD");
        for (int w = 0; w < PARTS.length; w++) {
            int what = w;
            for (int v : new int[] {PARTS[w][0] - 1, PARTS[w][1] + 1, LOW, FAR, 65536 + PARTS[w][0]}) {
                for (int g = 0; g < 3; g++) {
                    int it = g;
                    check.keeps("alter(" + g + ", " + w + ", " + v + ")", RICH, x -> x.alter(it, what, v), BAD);
                }
            }
            for (int g : new int[] {-1, 3, 4, LOW, FAR}) {
                check.keeps("alter(" + g + ", " + w + ", 1)", RICH, x -> x.alter(g, what, 1), BAD);
            }
            check.keeps("alter(4, " + w + ", 1)", BRIM, x -> x.alter(4, what, 1), BAD);
        }
        for (int what : new int[] {-1, 5, 6, 7, LOW, FAR}) {
            check.keeps("alter(0, " + what + ", 0)", RICH, x -> x.alter(0, what, 0), BAD);
            check.keeps("alter(0, " + what + ", 1)", RICH, x -> x.alter(0, what, 1), BAD);
        }
    }

    // ---- promises 10 and 11

    private static void tellsAtBounds() {
        check.by("Promise 10: FLOW (0 to 40), by how much THE ACTOR CALMS (0 to 20)");
        GeyserNerves x = new GeyserNerves();
        check.due("tell(0, 0)", x.tell(0, 0), 8);
        check.due("tell(1, 0)", x.tell(1, 0), 4);
        check.due("tell(0, 40)", x.tell(0, 40), 0);
        check.due("tell(1, 20)", x.tell(1, 20), 0);
        check.due("tell(0, 1)", x.tell(0, 1), 40);
        check.due("tell(1, 1)", x.tell(1, 1), 20);
        check.due("tell(0, 39)", x.tell(0, 39), 1);
        check.due("tell(1, 19)", x.tell(1, 19), 1);
        check.due("FLOW", x.rule(3), 39);
        check.due("CALMS", x.rule(4), 19);
        check.keeps("as it is", RICH, it -> it.tell(0, 17), 17);
        check.keeps("as it is", RICH, it -> it.tell(1, 6), 6);
    }

    private static void tellsBad() {
        check.by("Promise 10: BAD");
        for (int v : new int[] {-1, 41, LOW, FAR, 65536}) {
            check.keeps("tell(0, " + v + ")", RICH, x -> x.tell(0, v), BAD);
        }
        for (int v : new int[] {-1, 21, 40, LOW, FAR, 65536}) {
            check.keeps("tell(1, " + v + ")", RICH, x -> x.tell(1, v), BAD);
        }
        for (int what : new int[] {-1, 2, LOW, FAR}) {
            check.keeps("tell(" + what + ", 0)", RICH, x -> x.tell(what, 0), BAD);
            check.keeps("tell(" + what + ", 9)", RICH, x -> x.tell(what, 9), BAD);
        }
    }

    private static void setsAtBounds() {
        check.by("Promise 11: WATCHERS (0 to 9), with whom THE ACTOR is (0 to 3; 4: nobody) of a ROW");
        for (int i : new int[] {0, 5, 11}) {
            GeyserNerves x = Check.full();
            check.due("set(" + i + ", 0, 0)", x.set(i, 0, 0), i % 10);
            check.due("set(" + i + ", 0, 9)", x.set(i, 0, 9), 0);
            check.due("set(" + i + ", 0, 8)", x.set(i, 0, 8), 9);
            check.due("set(" + i + ", 1, 0)", x.set(i, 1, 0), i % 5);
            check.due("set(" + i + ", 1, 4)", x.set(i, 1, 4), 0);
            check.due("set(" + i + ", 1, 3)", x.set(i, 1, 3), 4);
            for (int other = 0; other < 12; other++) {
                check.due("row(" + other + ", 0)", x.row(other, 0), other == i ? 8 : other % 10);
                check.due("row(" + other + ", 1)", x.row(other, 1), other == i ? 3 : other % 5);
            }
        }
        GeyserNerves none = new GeyserNerves();
        none.add(0, 4);
        check.due("with a GEYSER that is not there", none.set(0, 1, 3), 4);
        check.due("with a GEYSER that is not there", none.row(0, 1), 3);
    }

    private static void setsBad() {
        check.by("Promise 11: BAD");
        for (int v : new int[] {-1, 10, LOW, FAR, 65536}) {
            check.keeps("set(0, 0, " + v + ")", RICH, x -> x.set(0, 0, v), BAD);
            check.keeps("set(11, 0, " + v + ")", BRIM, x -> x.set(11, 0, v), BAD);
        }
        for (int v : new int[] {-1, 5, 9, LOW, FAR, 65536}) {
            check.keeps("set(0, 1, " + v + ")", RICH, x -> x.set(0, 1, v), BAD);
        }
        for (int i : new int[] {-1, 3, 4, 12, LOW, FAR}) {
            check.keeps("set(" + i + ", 0, 1)", RICH, x -> x.set(i, 0, 1), BAD);
            check.keeps("set(" + i + ", 1, 1)", RICH, x -> x.set(i, 1, 1), BAD);
        }
        check.keeps("set(12, 0, 1)", BRIM, x -> x.set(12, 0, 1), BAD);
        for (int what : new int[] {-1, 2, LOW, FAR}) {
            check.keeps("set(0, " + what + ", 1)", RICH, x -> x.set(0, what, 1), BAD);
        }
    }

    // ---- promises 12 and 13

    private static void opensAtBounds() {
        check.by("Promise 12: a GEYSER more, behind all others: how many there are");
        int[][] geysers = {{0, 1, 0}, {3, 60, 9}, {1, 2, 1}, {2, 59, 8}};
        GeyserNerves x = new GeyserNerves();
        for (int g = 0; g < 4; g++) {
            check.due("open, " + g, x.open(geysers[g][0], geysers[g][1], geysers[g][2]), g + 1);
        }
        for (int g = 0; g < 4; g++) {
            for (int what = 0; what < 6; what++) {
                check.due("geyser(" + g + ", " + what + ")", x.geyser(g, what), what < 3 ? geysers[g][what] : 0);
            }
        }
    }

    private static void opensBad() {
        check.by("Promise 12: BAD");
        for (Check.Maker maker : new Check.Maker[] {RICH, BRIM, GeyserNerves::new}) {
            for (int kind : new int[] {-1, 4, LOW, FAR}) {
                check.keeps("open(" + kind + ", 1, 0)", maker, x -> x.open(kind, 1, 0), BAD);
            }
            for (int need : new int[] {-1, 0, 61, LOW, FAR}) {
                check.keeps("open(0, " + need + ", 0)", maker, x -> x.open(0, need, 0), BAD);
            }
            for (int nerve : new int[] {-1, 10, LOW, FAR}) {
                check.keeps("open(0, 1, " + nerve + ")", maker, x -> x.open(0, 1, nerve), BAD);
            }
        }
    }

    private static void opensFull() {
        check.by("Promise 12: FULL; GEYSERS (4 at most)");
        GeyserNerves x = Check.rich();
        check.due("the 4th", x.open(3, 9, 9), 4);
        check.due("the 5th", x.open(3, 9, 9), FULL);
        check.keeps("the 5th", BRIM, it -> it.open(0, 1, 0), FULL);
        check.keeps("the 5th", BRIM, it -> it.open(3, 60, 9), FULL);
        GeyserNerves cut = Check.full();
        cut.cut(3);
        check.due("the 4th again", cut.open(3, 9, 9), 4);
        check.due("the 5th again", cut.open(3, 9, 9), FULL);
    }

    private static void opensAnew() {
        check.by("Promise 12: (HEAT, FRET 0)");
        GeyserNerves x = Check.full();
        for (int g = 0; g < 4; g++) {
            x.alter(g, 3, 199);
        }
        x.hours(1);
        for (int g = 0; g < 4; g++) {
            x.alter(g, 3, 40 + g);
            x.alter(g, 4, 9 + g);
        }
        x.cut(2);
        x.open(1, 33, 7);
        check.due("WENT of one that stays", x.geyser(1, 5) > 0 ? 1 : 0, 1);
        check.due("HEAT of one that stays", x.geyser(1, 3), 41);
        check.due("FRET of one that stays", x.geyser(1, 4), 10);
        int[] due = {1, 33, 7, 0, 0, 0};
        for (int what = 0; what < due.length; what++) {
            check.due("geyser(2, " + what + ")", x.geyser(2, what), due[what]);
        }
        check.due("geyser(3, 0)", x.geyser(3, 0), BAD);
    }

    private static void cuts() {
        check.by("Promise 13: BAD");
        for (int n : new int[] {-1, 4, 5, LOW, FAR}) {
            check.keeps("cut(" + n + ") of 3", RICH, x -> x.cut(n), BAD);
        }
        for (int n : new int[] {-1, 5, LOW, FAR}) {
            check.keeps("cut(" + n + ") of 4", BRIM, x -> x.cut(n), BAD);
        }
        check.keeps("cut(3) of 3", RICH, x -> x.cut(3), 3);
        check.keeps("cut(4) of 4", BRIM, x -> x.cut(4), 4);
    }

    private static void cutsTheFirstAlone() {
        check.by("Promise 13: GEYSERS are the first n alone: how many there were");
        for (int n = 0; n <= 4; n++) {
            GeyserNerves x = Check.full();
            GeyserNerves twin = Check.full();
            check.due("cut(" + n + ")", x.cut(n), 4);
            check.due("GEYSERS", x.rule(0), n);
            for (int g = 0; g < 4; g++) {
                for (int what = 0; what < 6; what++) {
                    check.due("geyser(" + g + ", " + what + ")", x.geyser(g, what), g < n ? twin.geyser(g, what) : BAD);
                }
            }
            check.due("ROWS stay", x.rule(1), 12);
            check.due("SEEN stay", x.count(0), 6);
            check.due("cut(" + n + ") again", x.cut(n), n);
            check.due("cut(" + (n + 1) + ") then", x.cut(n + 1), BAD);
        }
    }

    // ---- promises 14 and 15

    private static void addsAtBounds() {
        check.by("Promise 14: a ROW more, behind all others: how many there are");
        int[][] rows = {{0, 0}, {9, 4}, {0, 4}, {9, 0}, {1, 3}, {8, 1}};
        GeyserNerves x = new GeyserNerves();
        for (int i = 0; i < rows.length; i++) {
            check.due("add, " + i, x.add(rows[i][0], rows[i][1]), i + 1);
        }
        for (int i = 0; i < rows.length; i++) {
            check.due("row(" + i + ", 0)", x.row(i, 0), rows[i][0]);
            check.due("row(" + i + ", 1)", x.row(i, 1), rows[i][1]);
        }
    }

    private static void addsBad() {
        check.by("Promise 14: BAD");
        for (Check.Maker maker : new Check.Maker[] {RICH, BRIM, GeyserNerves::new}) {
            for (int watchers : new int[] {-1, 10, LOW, FAR, 65536}) {
                check.keeps("add(" + watchers + ", 0)", maker, x -> x.add(watchers, 0), BAD);
            }
            for (int whom : new int[] {-1, 5, LOW, FAR, 65536}) {
                check.keeps("add(0, " + whom + ")", maker, x -> x.add(0, whom), BAD);
            }
        }
    }

    private static void addsFull() {
        check.by("Promise 14: FULL; ROWS of THE PLAN (12 at most)");
        GeyserNerves x = new GeyserNerves();
        for (int i = 1; i <= 12; i++) {
            check.due("add, " + i, x.add(i % 10, 4), i);
        }
        check.due("the 13th", x.add(0, 0), FULL);
        check.keeps("the 13th", BRIM, it -> it.add(0, 0), FULL);
        check.keeps("the 13th", BRIM, it -> it.add(9, 4), FULL);
        x.drop(11);
        check.due("the 12th again", x.add(7, 3), 12);
        check.due("the 13th again", x.add(7, 3), FULL);
        check.due("row(11, 0)", x.row(11, 0), 7);
        check.due("row(11, 1)", x.row(11, 1), 3);
    }

    private static void drops() {
        check.by("Promise 15: BAD");
        for (int n : new int[] {-1, 4, 12, LOW, FAR}) {
            check.keeps("drop(" + n + ") of 3", RICH, x -> x.drop(n), BAD);
        }
        for (int n : new int[] {-1, 13, LOW, FAR}) {
            check.keeps("drop(" + n + ") of 12", BRIM, x -> x.drop(n), BAD);
        }
        check.keeps("drop(3) of 3", RICH, x -> x.drop(3), 3);
        check.keeps("drop(12) of 12", BRIM, x -> x.drop(12), 12);
    }

    private static void dropsTheFirstAlone() {
        check.by("Promise 15: ROWS are the first n alone: how many there were");
        for (int n = 0; n <= 12; n++) {
            GeyserNerves x = Check.full();
            check.due("drop(" + n + ")", x.drop(n), 12);
            check.due("ROWS", x.rule(1), n);
            for (int i = 0; i < 12; i++) {
                check.due("row(" + i + ", 0)", x.row(i, 0), i < n ? i % 10 : BAD);
                check.due("row(" + i + ", 1)", x.row(i, 1), i < n ? i % 5 : BAD);
            }
            check.due("GEYSERS stay", x.rule(0), 4);
            check.due("HOUR stays", x.rule(2), 9);
            check.due("WATCHERS of HOUR 9", x.rule(6), n == 0 ? 0 : 9 % n);
            check.due("drop(" + n + ") again", x.drop(n), n);
            check.due("drop(" + (n + 1) + ") then", x.drop(n + 1), BAD);
        }
    }
}
