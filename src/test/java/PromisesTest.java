/** Each promise of the document by answers worked out by hand: ordinary calls, edges, wrong ones. */
public final class PromisesTest {
    private static final int BAD = GeyserNerves.BAD, STATE = GeyserNerves.STATE;
    private static final int FULL = GeyserNerves.FULL, NONE = GeyserNerves.NONE;
    private static final int FAR = Integer.MAX_VALUE, LOW = Integer.MIN_VALUE;
    private static int wrong = 0;
    private static int asked = 0;

    private static void due(int promise, String what, long got, long want) {
        asked++;
        if (got != want) {
            wrong++;
            System.out.println("promise " + promise + ": " + what + " answered " + got + ", due is " + want);
        }
    }

    private static int text(GeyserNerves x, String text) {
        for (int i = 0; i < text.length(); i++) {
            x.feed(text.charAt(i));
        }
        return x.text();
    }

    private static GeyserNerves of(String text) {
        GeyserNerves x = new GeyserNerves();
        if (text(x, text) < 0) {
            wrong++;
            System.out.println("a text of this test was refused: " + text);
        }
        return x;
    }

    private static void duePlan(int promise, GeyserNerves x, int... cells) {
        due(promise, "rows", x.rule(1), cells.length / 2);
        for (int i = 0; i < cells.length; i++) {
            due(promise, "row(" + i / 2 + ", " + i % 2 + ")", x.row(i / 2, i % 2), cells[i]);
        }
    }

    public static void main(String[] args) {
        newObject();
        tape();
        texts();
        textsTellAll();
        asking();
        minding();
        changing();
        opening();
        rows();
        hours();
        byHours();
        whom();
        route();
        swap();
        bears();
        flow();
        kind();
        play();
        odds();
        seeing();
        seasons();
        images();
        sheets();
        reading();
        counting();
        System.out.println(wrong == 0 ? asked + " answers are as due" : wrong + " answers are not as due");
        if (wrong != 0) {
            System.exit(1);
        }
    }

    private static void newObject() {
        GeyserNerves x = new GeyserNerves();
        int[] rules = {0, 0, 0, 8, 4, 0, 0, NONE, 0};
        for (int what = 0; what < rules.length; what++) {
            due(1, "rule(" + what + ")", x.rule(what), rules[what]);
        }
        int[] counts = {0, 0, 0, NONE, 0, 0};
        for (int what = 0; what < counts.length; what++) {
            due(1, "count(" + what + ")", x.count(what), counts[what]);
        }
        for (int k = 0; k < 4; k++) {
            due(1, "lay(" + k + ", 0, 0)", x.lay(k, 0, 0), -11);
        }
        due(1, "torn()", x.torn(), 0);
        due(1, "fault()", x.fault(), 0);
        due(1, "back(0)", x.back(0), STATE);
        due(1, "back(1)", x.back(1), STATE);
        due(1, "geyser(0, 0)", x.geyser(0, 0), BAD);
        due(1, "row(0, 0)", x.row(0, 0), BAD);
    }

    private static void tape() {
        GeyserNerves x = new GeyserNerves();
        due(2, "feed(-1)", x.feed(-1), BAD);
        due(2, "feed(128)", x.feed(128), BAD);
        due(2, "feed(FAR)", x.feed(FAR), BAD);
        due(2, "feed(0)", x.feed(0), 1);
        due(2, "feed(127)", x.feed(127), 2);
        for (int i = 3; i <= 160; i++) {
            due(2, "feed(97), " + i, x.feed(97), i);
        }
        due(2, "feed(97), 161", x.feed(97), FULL);
        due(2, "feed(128) when full", x.feed(128), BAD);
        due(2, "count(2)", x.count(2), 160);
        due(3, "end(161)", x.end(161), BAD);
        due(3, "end(-1)", x.end(-1), BAD);
        due(3, "end(160)", x.end(160), 160);
        due(3, "end(3)", x.end(3), 160);
        due(3, "end(4)", x.end(4), BAD);
        due(3, "count(2)", x.count(2), 3);
        due(3, "feed(97) then", x.feed(97), 4);
        due(3, "end(0)", x.end(0), 4);
        due(3, "end(0) again", x.end(0), 0);
        text(x, "shy 1");
        for (int c : new int[] {' ', '7', ';', 'x', 'x'}) {
            x.feed(c);
        }
        // The text before was refused at its end and has emptied the tape.
        due(3, "end(3)", x.end(3), 5);
        due(3, "end(0)", x.end(0), 3);
        String kept = "shy 1 7;xx";
        for (int i = 0; i < kept.length(); i++) {
            x.feed(kept.charAt(i));
        }
        due(3, "end(8)", x.end(8), 10);
        due(3, "text() of what is kept", x.text(), 1);
    }

    private static void dueText(String text, int answer, int fault) {
        GeyserNerves x = of("sulky 7 7;flow 3;calm 2;hour 5 1;");
        due(4, "text of '" + text + "'", text(x, text), answer);
        due(5, "fault of '" + text + "'", x.fault(), fault);
        due(4, "the tape behind '" + text + "'", x.count(2), 0);
        if (answer < 0) {
            due(4, "what was told", x.rule(0) * 1000 + x.rule(3) * 100 + x.rule(4) * 10 + x.row(0, 0), 1325);
        }
    }

    private static void texts() {
        dueText("", 0, 0);
        dueText("    ", 0, 0);
        dueText("plain 20 3;", 1, 0);
        dueText("plain20 3;", 1, 0);
        dueText("  plain  20  3  ;  ", 1, 0);
        dueText("plain 05 3;", 1, 0);
        dueText("plain 1 0;shy 60 9;sulky 1 00;faint 60 09;", 4, 0);
        dueText("flow 40;calm 20;", 2, 0);
        dueText("calm 0;flow 0;", 2, 0);
        dueText("hour 0 0;hour 9 4;", 2, 0);
        dueText("hour 9 3;", 1, 0);
        dueText("Plain 1 1;", -10, 1);
        dueText("plain 1 1;\t", -20, 1);
        dueText("plain 020 3;", -16, 1);
        dueText("123", -10, 1);
        dueText("flow 1000;", -15, 1);
        dueText("plain 1 1:", -19, 1);
        dueText("plain 1 1/", -19, 1);
        dueText("flow 1{", -16, 1);
        dueText("`", -10, 1);
        dueText("flow 1;\0", -17, 1);
        dueText("z", -10, 2);
        dueText("xlain 1 1;", -10, 2);
        dueText("12", -10, 2);
        dueText(";", -10, 2);
        dueText("plains 1 1;", -10, 2);
        dueText("plai 1 1;", -10, 2);
        dueText("flow 1;;", -17, 2);
        dueText("plain", -15, 2);
        dueText("plain  ", -17, 2);
        dueText("plain 1 1", -19, 2);
        dueText("plain 1 1 ; shy", -25, 2);
        dueText("plain plain", -16, 2);
        dueText("flow 1 1;", -17, 2);
        dueText("hour 1;", -16, 2);
        dueText("plain 0 A;", -16, 3);
        dueText("plain A 0;", -16, 1);
        dueText("plain 61 A", -16, 3);
        dueText("plain 60 10;", -19, 3);
        dueText("flow 41", -15, 3);
        dueText("calm 21", -15, 3);
        dueText("hour 9 5", -17, 3);
        dueText("hour 10", -15, 3);
        dueText("flow 1;flow A", -17, 4);
        dueText("calm 1; calm", -18, 4);
        dueText("calm 1;flow 1;calm 1;", -24, 4);
        String geysers = "shy 1 0;shy 1 0;plain 1 0;faint 1 0;";
        dueText(geysers, 4, 0);
        dueText(geysers + "sulky A", -10 - geysers.length(), 5);
        dueText(geysers + "sulk", -10 - geysers.length(), 2);
        String twelve = "hour 0 4;".repeat(12);
        dueText(twelve, 12, 0);
        dueText(twelve + " hour", -10 - twelve.length() - 1, 5);
        dueText(" ".repeat(159) + "a", -169, 2);
        dueText(" ".repeat(155) + "plain", -170, 2);
    }

    private static void textsTellAll() {
        GeyserNerves x = of("plain 9 1;flow 30;calm 9;hour 3 0;hour 4 4;");
        x.hours(7);
        x.see(0, 0, 1);
        x.keep(0);
        x.sheet(0, 1, 5);
        x.runs(9, 0);
        int went = x.rule(5);
        due(4, "a text with a fault", text(x, "faint 8 2;hour"), -24);
        due(4, "HOUR behind it", x.rule(2), 7);
        due(4, "WENT behind it", x.rule(5), went);
        due(4, "SEEN behind it", x.count(0), 1);
        due(4, "IMAGES behind it", x.count(1), 1);
        due(5, "fault()", x.fault(), 2);
        due(5, "fault() again", x.fault(), 2);
        x.runs(9, 0);
        due(4, "a text that is taken", text(x, "faint 8 2;"), 1);
        due(5, "fault()", x.fault(), 0);
        int[] rules = {1, 0, 0, 8, 4, 0, 0, NONE, 0};
        for (int what = 0; what < rules.length; what++) {
            due(4, "rule(" + what + ") behind it", x.rule(what), rules[what]);
        }
        int[] geyser = {3, 8, 2, 0, 0, 0, 8, 0};
        for (int what = 0; what < geyser.length; what++) {
            due(4, "geyser(0, " + what + ") behind it", x.geyser(0, what), geyser[what]);
        }
        due(4, "SEEN then", x.count(0), 0);
        due(4, "IMAGES then", x.count(1), 0);
        due(4, "back(0) then", x.back(0), STATE);
        due(4, "CELLS then", x.count(3), 5);
        due(4, "an empty text", x.text(), 0);
        due(4, "GEYSERS then", x.rule(0), 0);
    }

    private static void asking() {
        GeyserNerves x = of("plain 20 3;shy 14 5;sulky 30 2;flow 11;calm 6;hour 9 0;hour 2 4;hour 1 3;");
        x.alter(0, 3, 5);
        x.alter(2, 3, 6);
        int[] rules = {3, 3, 0, 11, 6, 0, 9, 0, 11};
        for (int what = 0; what < rules.length; what++) {
            due(6, "rule(" + what + ")", x.rule(what), rules[what]);
        }
        due(6, "rule(9)", x.rule(9), BAD);
        due(6, "rule(-1)", x.rule(-1), BAD);
        due(7, "SHARE of 0", x.geyser(0, 6), 4);
        due(7, "SHARE of 1", x.geyser(1, 6), 4);
        due(7, "SHARE of 2", x.geyser(2, 6), 3);
        due(7, "KIND of 2", x.geyser(2, 0), 2);
        due(7, "NEED of 2", x.geyser(2, 1), 30);
        due(7, "NERVE of 1", x.geyser(1, 2), 5);
        due(7, "geyser(3, 0)", x.geyser(3, 0), BAD);
        due(7, "geyser(-1, 0)", x.geyser(-1, 0), BAD);
        due(7, "geyser(0, 8)", x.geyser(0, 8), BAD);
        due(7, "geyser(0, -1)", x.geyser(0, -1), BAD);
        due(8, "row(1, 0)", x.row(1, 0), 2);
        due(8, "row(1, 1)", x.row(1, 1), 4);
        due(8, "row(3, 0)", x.row(3, 0), BAD);
        due(8, "row(-1, 0)", x.row(-1, 0), BAD);
        due(8, "row(0, 2)", x.row(0, 2), BAD);
        due(8, "row(0, -1)", x.row(0, -1), BAD);
        x.hours(1);
        due(6, "HOUR", x.rule(2), 1);
        due(6, "WATCHERS of HOUR 1", x.rule(6), 2);
        due(6, "nobody in HOUR 1", x.rule(7), NONE);
        x.hours(1);
        due(6, "the actor in HOUR 2", x.rule(7), 3);
        x.hours(1);
        due(6, "WATCHERS of HOUR 3", x.rule(6), 9);
        due(6, "the actor in HOUR 3", x.rule(7), 0);
    }

    private static void minding() {
        GeyserNerves x = of("plain 60 4;shy 60 4;sulky 60 4;faint 60 4;hour 9 4;flow 0;");
        int[][] due = {{9, 5, 10, 11, 16}, {8, 4, 8, 9, 9}, {5, 1, 2, 3, 3}, {4, 0, 0, 1, 1}, {1, 0, 0, 1, 1},
            {0, 0, 0, 0, 0}};
        for (int[] of : due) {
            x.set(0, 0, of[0]);
            for (int g = 0; g < 4; g++) {
                due(7, "what " + g + " minds of " + of[0], x.geyser(g, 7), of[1 + g]);
            }
        }
        x.set(0, 0, 9);
        for (int g = 0; g < 4; g++) {
            x.alter(g, 2, 9);
            due(7, "what " + g + " minds with a nerve of 9", x.geyser(g, 7), new int[] {0, 0, 1, 6}[g]);
            x.alter(g, 4, 10);
        }
        x.drop(0);
        x.hours(1);
        for (int g = 0; g < 4; g++) {
            due(16, "FRET of " + g + " when it has faded", x.geyser(g, 4), new int[] {8, 9, 10, 10}[g]);
            x.alter(g, 4, g == 0 ? 1 : 0);
        }
        x.hours(1);
        due(16, "FRET is 0 at least", x.geyser(0, 4) + x.geyser(1, 4), 0);
    }

    private static void changing() {
        GeyserNerves x = of("plain 20 3;shy 14 5;hour 9 0;hour 2 4;");
        int[][] bounds = {{0, 3}, {1, 60}, {0, 9}, {0, 199}, {0, 20}};
        for (int what = 0; what < 5; what++) {
            int was = x.geyser(1, what);
            due(9, "too little, " + what, x.alter(1, what, bounds[what][0] - 1), BAD);
            due(9, "too much, " + what, x.alter(1, what, bounds[what][1] + 1), BAD);
            due(9, "the most, " + what, x.alter(1, what, bounds[what][1]), was);
            due(9, "the least, " + what, x.alter(1, what, bounds[what][0]), bounds[what][1]);
            due(9, "then, " + what, x.geyser(1, what), bounds[what][0]);
        }
        due(9, "alter(0, 5, 1)", x.alter(0, 5, 1), BAD);
        due(9, "alter(0, -1, 1)", x.alter(0, -1, 1), BAD);
        due(9, "alter(2, 0, 1)", x.alter(2, 0, 1), BAD);
        due(9, "alter(-1, 0, 1)", x.alter(-1, 0, 1), BAD);
        due(9, "the other is as it was", x.geyser(0, 1), 20);
        due(10, "tell(0, 41)", x.tell(0, 41), BAD);
        due(10, "tell(0, -1)", x.tell(0, -1), BAD);
        due(10, "tell(0, 40)", x.tell(0, 40), 8);
        due(10, "tell(0, 0)", x.tell(0, 0), 40);
        due(10, "tell(1, 21)", x.tell(1, 21), BAD);
        due(10, "tell(1, -1)", x.tell(1, -1), BAD);
        due(10, "tell(1, 20)", x.tell(1, 20), 4);
        due(10, "tell(1, 0)", x.tell(1, 0), 20);
        due(10, "tell(2, 0)", x.tell(2, 0), BAD);
        due(10, "tell(-1, 0)", x.tell(-1, 0), BAD);
        due(10, "FLOW, calms", x.rule(3) + x.rule(4), 0);
        due(11, "set(1, 0, 9)", x.set(1, 0, 9), 2);
        due(11, "set(1, 0, 10)", x.set(1, 0, 10), BAD);
        due(11, "set(1, 0, -1)", x.set(1, 0, -1), BAD);
        due(11, "set(1, 1, 3)", x.set(1, 1, 3), 4);
        due(11, "set(1, 1, 5)", x.set(1, 1, 5), BAD);
        due(11, "set(1, 1, -1)", x.set(1, 1, -1), BAD);
        due(11, "set(0, 1, 4)", x.set(0, 1, 4), 0);
        due(11, "set(0, 2, 0)", x.set(0, 2, 0), BAD);
        due(11, "set(0, -1, 0)", x.set(0, -1, 0), BAD);
        due(11, "set(2, 0, 0)", x.set(2, 0, 0), BAD);
        due(11, "set(-1, 0, 0)", x.set(-1, 0, 0), BAD);
        duePlan(11, x, 9, 4, 9, 3);
    }

    private static void opening() {
        GeyserNerves x = new GeyserNerves();
        due(12, "open(0, 1, 0)", x.open(0, 1, 0), 1);
        due(12, "open(3, 60, 9)", x.open(3, 60, 9), 2);
        due(12, "open(-1, 1, 0)", x.open(-1, 1, 0), BAD);
        due(12, "open(4, 1, 0)", x.open(4, 1, 0), BAD);
        due(12, "open(0, 0, 0)", x.open(0, 0, 0), BAD);
        due(12, "open(0, 61, 0)", x.open(0, 61, 0), BAD);
        due(12, "open(0, 1, -1)", x.open(0, 1, -1), BAD);
        due(12, "open(0, 1, 10)", x.open(0, 1, 10), BAD);
        due(12, "NEED", x.geyser(1, 1), 60);
        x.open(1, 2, 3);
        due(12, "the 4th", x.open(2, 2, 2), 4);
        due(12, "the 5th", x.open(2, 2, 2), FULL);
        due(12, "a bad 5th", x.open(2, 0, 2), BAD);
        x.hours(3);
        x.alter(3, 3, 50);
        x.alter(3, 4, 5);
        due(13, "cut(5)", x.cut(5), BAD);
        due(13, "cut(-1)", x.cut(-1), BAD);
        due(13, "cut(4)", x.cut(4), 4);
        due(13, "cut(3)", x.cut(3), 4);
        due(13, "cut(4) then", x.cut(4), BAD);
        due(13, "geyser(3, 0)", x.geyser(3, 0), BAD);
        due(13, "SHARE of 0 among 3", x.geyser(0, 6), 3);
        due(12, "open again", x.open(2, 2, 2), 4);
        for (int what = 3; what < 6; what++) {
            due(12, "geyser(3, " + what + ")", x.geyser(3, what), 0);
        }
        due(13, "cut(0)", x.cut(0), 4);
        due(13, "cut(0) again", x.cut(0), 0);
        due(13, "WENT of all", x.rule(5), 0);
    }

    private static void rows() {
        GeyserNerves x = new GeyserNerves();
        due(14, "add(10, 0)", x.add(10, 0), BAD);
        due(14, "add(-1, 0)", x.add(-1, 0), BAD);
        due(14, "add(0, 5)", x.add(0, 5), BAD);
        due(14, "add(0, -1)", x.add(0, -1), BAD);
        for (int i = 1; i <= 12; i++) {
            due(14, "add, " + i, x.add(i % 10, i % 5), i);
        }
        due(14, "the 13th", x.add(0, 0), FULL);
        due(14, "a bad 13th", x.add(10, 0), BAD);
        due(15, "drop(13)", x.drop(13), BAD);
        due(15, "drop(-1)", x.drop(-1), BAD);
        due(15, "drop(3)", x.drop(3), 12);
        due(15, "drop(4)", x.drop(4), BAD);
        duePlan(15, x, 1, 1, 2, 2, 3, 3);
        due(14, "add behind them", x.add(9, 4), 4);
        duePlan(14, x, 1, 1, 2, 2, 3, 3, 9, 4);
        due(15, "drop(0)", x.drop(0), 4);
        due(15, "drop(0) again", x.drop(0), 0);
        due(15, "row(0, 0)", x.row(0, 0), BAD);
    }

    private static void hours() {
        GeyserNerves x = of("plain 10 2;flow 4;calm 3;hour 5 0;hour 0 4;");
        due(16, "hours(0)", x.hours(0), 0);
        due(16, "hours(2)", x.hours(2), 0);
        due(16, "HEAT", x.geyser(0, 3), 8);
        due(16, "hours(1)", x.hours(1), 1);
        due(16, "HEAT, FRET behind it", x.geyser(0, 3) + x.geyser(0, 4), 0);
        due(16, "WENT", x.geyser(0, 5), 1);
        due(16, "HOUR", x.rule(2), 3);
        x.set(0, 1, 4);
        due(16, "hours(2) with nobody", x.hours(2), 0);
        due(16, "FRET", x.geyser(0, 4), 3);
        due(16, "hours(1), just enough", x.hours(1), 1);
        due(16, "hours(101)", x.hours(101), BAD);
        due(16, "hours(-1)", x.hours(-1), BAD);
        due(16, "HOUR", x.rule(2), 6);
        GeyserNerves much = of("shy 60 3;flow 0;hour 9 0;");
        much.alter(0, 4, 16);
        much.hours(1);
        due(16, "FRET is 20 at most, then less", much.geyser(0, 4), 16);
        much.set(0, 1, 1);
        much.hours(1);
        due(16, "FRET without the actor", much.geyser(0, 4), 20);
        GeyserNerves hot = of("plain 60 0;flow 40;");
        hot.alter(0, 3, 199);
        due(16, "as hot as may be", hot.hours(1), 1);
        GeyserNerves more = of("plain 60 0;flow 0;calm 20;hour 0 0;");
        more.alter(0, 4, 3);
        more.hours(1);
        due(16, "0 at least each", more.geyser(0, 4), 0);
        GeyserNerves late = new GeyserNerves();
        for (int i = 0; i < 99; i++) {
            late.hours(100);
        }
        due(16, "hours(100) to 10000", late.hours(100), FULL);
        due(16, "hours(101) to 10001", late.hours(101), BAD);
        due(16, "hours(99) to 9999", late.hours(99), 0);
        due(16, "hours(1) to 10000", late.hours(1), FULL);
        due(16, "hours(0) at 9999", late.hours(0), 0);
        due(16, "HOUR", late.rule(2), 9999);
    }

    private static void byHours() {
        // It goes up in HOURS 2, 5, 8, ..: rows 5 0, 0 4, 5 0, .. take turns.
        GeyserNerves x = of("plain 10 2;flow 4;calm 3;hour 5 0;hour 1 4;");
        int[] ups = {0, 1, 2, 66};
        int[] ns = {0, 3, 6, 200};
        for (int i = 0; i < ns.length; i++) {
            due(17, "runs(" + ns[i] + ", 0)", x.runs(ns[i], 0), ups[i]);
            due(18, "ahead(0, " + ns[i] + ", 2)", x.ahead(0, ns[i], 2), ups[i]);
        }
        due(17, "runs(6, 1)", x.runs(6, 1), 6);
        due(17, "runs(6, 2)", x.runs(6, 2), 12);
        due(17, "runs(6, 4)", x.runs(6, 4), 8);
        due(17, "runs(1, 4)", x.runs(1, 4), 4);
        due(17, "runs(1, 3)", x.runs(1, 3), 0);
        x.tell(1, 0);
        due(17, "runs(1, 3) without calm", x.runs(1, 3), 3);
        due(18, "ahead(0, 1, 1)", x.ahead(0, 1, 1), 3);
        x.tell(1, 3);
        x.alter(0, 3, 9);
        due(17, "runs(0, 4), now too", x.runs(0, 4), 9);
        due(17, "runs(1, 4), now too", x.runs(1, 4), 9);
        x.alter(0, 3, 0);
        due(18, "ahead(0, 2, 0)", x.ahead(0, 2, 0), 8);
        due(18, "ahead(0, 3, 0)", x.ahead(0, 3, 0), 0);
        due(19, "ups(1)", x.ups(1), 0);
        due(19, "ups(2)", x.ups(2), 1);
        due(19, "ups(200)", x.ups(200), 1);
        due(19, "ups(199)", x.ups(199), 0);
        due(20, "when(0)", x.when(0), 2);
        due(21, "again()", x.again(), 6);
        due(17, "nothing is changed", x.rule(2) + x.rule(5) + x.rule(8), 0);
        due(17, "runs(201, 0)", x.runs(201, 0), BAD);
        due(17, "runs(-1, 0)", x.runs(-1, 0), BAD);
        due(17, "runs(0, 5)", x.runs(0, 5), BAD);
        due(17, "runs(0, -1)", x.runs(0, -1), BAD);
        due(18, "ahead(1, 0, 0)", x.ahead(1, 0, 0), BAD);
        due(18, "ahead(-1, 0, 0)", x.ahead(-1, 0, 0), BAD);
        due(18, "ahead(0, 201, 0)", x.ahead(0, 201, 0), BAD);
        due(18, "ahead(0, -1, 0)", x.ahead(0, -1, 0), BAD);
        due(18, "ahead(0, 0, 3)", x.ahead(0, 0, 3), BAD);
        due(18, "ahead(0, 0, -1)", x.ahead(0, 0, -1), BAD);
        due(19, "ups(201)", x.ups(201), BAD);
        due(19, "ups(-1)", x.ups(-1), BAD);
        due(20, "when(1)", x.when(1), BAD);
        due(20, "when(-1)", x.when(-1), BAD);
        GeyserNerves two = of("plain 60 9;plain 3 9;flow 6;");
        due(19, "bits", two.ups(0), 2);
        due(19, "both", two.ups(19), 3);
        due(20, "when(0)", two.when(0), 19);
        due(21, "again() without rows", two.again(), 20);
        GeyserNerves slow = of("plain 60 9;flow 0;");
        due(20, "never", slow.when(0), NONE);
        due(21, "nothing moves", slow.again(), 1);
        slow.alter(0, 4, 5);
        due(21, "FRET fades and does not come back", slow.again(), NONE);
        GeyserNerves last = of("plain 60 9;flow 1;");
        last.alter(0, 2, 9);
        due(20, "when(0) by 1", last.when(0), 59);
        due(21, "again() by 60", last.again(), 60);
        last.add(1, 4);
        last.add(1, 4);
        last.add(1, 4);
        last.add(1, 4);
        last.add(1, 4);
        last.add(1, 4);
        last.add(1, 4);
        due(21, "again() by 420", last.again(), NONE);
        // FRET is 1 less in every 12th HOUR, for the 17th time in HOUR 200.
        GeyserNerves calm = of("plain 5 9;flow 0;calm 1;");
        for (int i = 0; i < 12; i++) {
            calm.add(9, i == 8 ? 0 : 4);
        }
        calm.alter(0, 3, 5);
        calm.alter(0, 4, 17);
        due(20, "in HOUR 200", calm.when(0), 200);
        calm.set(8, 1, 4);
        calm.set(9, 1, 0);
        due(20, "in HOUR 201", calm.when(0), NONE);
        GeyserNerves round = of("plain 25 9;flow 1;" + "hour 0 4;".repeat(8));
        due(21, "behind 200", round.again(), 200);
        GeyserNerves none = of("hour 4 4;hour 3 0;hour 2 0;");
        due(17, "in vain, without geysers", none.runs(4, 2), 13);
        due(17, "the greatest of none", none.runs(4, 4), 0);
        due(21, "the plan comes round", none.again(), 3);
        due(21, "nothing at all", new GeyserNerves().again(), 1);
    }

    private static void whom() {
        GeyserNerves x = of("plain 5 9;plain 5 0;flow 10;calm 20;hour 9 4;");
        due(22, "whom(0, 1, 0)", x.whom(0, 1, 0), 1);
        due(22, "whom(0, 1, 1)", x.whom(0, 1, 1), 2);
        due(22, "whom(0, 0, 0)", x.whom(0, 0, 0), 0);
        due(22, "whom(0, 0, 1)", x.whom(0, 0, 1), 0);
        due(22, "whom(0, 200, 1)", x.whom(0, 200, 1), 400);
        due(22, "the row is as it was", x.row(0, 1), 4);
        due(22, "whom(1, 1, 0)", x.whom(1, 1, 0), BAD);
        due(22, "whom(-1, 1, 0)", x.whom(-1, 1, 0), BAD);
        due(22, "whom(0, 201, 0)", x.whom(0, 201, 0), BAD);
        due(22, "whom(0, -1, 0)", x.whom(0, -1, 0), BAD);
        due(22, "whom(0, 1, 2)", x.whom(0, 1, 2), BAD);
        due(22, "whom(0, 1, -1)", x.whom(0, 1, -1), BAD);
        x.cut(0);
        due(22, "nobody is there", x.whom(0, 1, 0), 4);
        due(22, "nobody goes up", x.whom(0, 1, 1), 0);
        // With it in row 0 it goes up once, in HOUR 3; left alone in HOURS 4 and 5.
        GeyserNerves alone = of("sulky 4 3;flow 5;calm 7;hour 9 3;hour 1 3;");
        due(22, "nobody had better be with it", alone.whom(0, 6, 0), 4);
        due(22, "nobody, how often", alone.whom(0, 6, 1), 2);
    }

    private static void route() {
        GeyserNerves x = of("plain 5 9;plain 5 0;flow 10;calm 20;hour 9 4;");
        due(23, "route(0, 0)", x.route(0, 0), 0);
        due(23, "route(1, 0)", x.route(1, 0), 2);
        due(23, "route(1, 10)", x.route(1, 10), 1);
        due(23, "route(4, 0)", x.route(4, 0), 8);
        for (int i = 0; i < 4; i++) {
            due(23, "route(4, " + (10 + i) + ")", x.route(4, 10 + i), 1);
        }
        int[][] bad = {{5, 0}, {-1, 0}, {0, 10}, {2, 12}, {4, 14}, {2, 9}, {2, 1}, {2, -1}, {2, LOW}, {FAR, 10}, {LOW, 0}};
        for (int[] it : bad) {
            due(23, "route(" + it[0] + ", " + it[1] + ")", x.route(it[0], it[1]), BAD);
        }
        x.cut(1);
        due(23, "the first of several", x.route(2, 11), 0);
        x.cut(0);
        due(23, "nobody is there", x.route(2, 11), 4);
        due(23, "none goes up", x.route(2, 0), 0);
        // By itself it goes up in HOUR 0 at once and is then put off for long.
        GeyserNerves alone = of("faint 6 2;flow 8;calm 1;hour 3 0;hour 9 2;hour 0 1;");
        due(23, "route(4, 0)", alone.route(4, 0), 2);
        int[] whom = {4, 0, 0, 0};
        for (int i = 0; i < 4; i++) {
            due(23, "route(4, " + (10 + i) + ")", alone.route(4, 10 + i), whom[i]);
        }
    }

    private static void swap() {
        GeyserNerves x = of("plain 8 9;flow 4;hour 9 4;hour 0 0;");
        due(24, "swap(2, 0)", x.swap(2, 0), 1);
        due(24, "swap(2, 1)", x.swap(2, 1), 9);
        due(24, "swap(4, 1)", x.swap(4, 1), 18);
        due(24, "swap(0, 0)", x.swap(0, 0), NONE);
        due(24, "swap(1, 1)", x.swap(1, 1), NONE);
        due(24, "swap(201, 0)", x.swap(201, 0), BAD);
        due(24, "swap(-1, 0)", x.swap(-1, 0), BAD);
        due(24, "swap(1, 2)", x.swap(1, 2), BAD);
        due(24, "swap(1, -1)", x.swap(1, -1), BAD);
        duePlan(24, x, 9, 4, 0, 0);
        GeyserNerves three = of("plain 8 9;flow 4;hour 1 4;hour 0 4;hour 9 4;hour 9 4;");
        due(24, "of several the least", three.swap(2, 0), 102);
        due(24, "how many", three.swap(2, 1), 9);
        GeyserNerves best = of("plain 8 9;flow 4;hour 9 4;hour 9 4;");
        due(24, "as good as it is", best.swap(2, 0), NONE);
        due(24, "as good as it is", best.swap(2, 1), NONE);
        // The actor changes places too: with him in HOUR 0 it goes up before 5.
        GeyserNerves both = of("plain 8 0;flow 8;calm 9;hour 1 4;hour 5 0;");
        due(24, "the actor as well", both.swap(1, 0), 1);
        due(24, "the actor as well", both.swap(1, 1), 5);
        // HOURS 0 and 1 change: in HOUR 1 nobody is with it then, so it does not go up before 9.
        GeyserNerves back = of("plain 8 0;flow 8;calm 9;hour 9 4;hour 4 0;");
        due(24, "both change", back.swap(2, 1), NONE);
        due(24, "no rows", new GeyserNerves().swap(9, 0), NONE);
    }

    private static void bears() {
        GeyserNerves x = of("plain 4 3;flow 4;hour 9 4;");
        due(25, "bears(0, 1)", x.bears(0, 1), 3);
        due(25, "bears(0, 2)", x.bears(0, 2), 3);
        due(25, "bears(0, 0)", x.bears(0, 0), 9);
        due(25, "bears(0, 200)", x.bears(0, 200), 3);
        due(25, "bears(1, 1)", x.bears(1, 1), BAD);
        due(25, "bears(-1, 1)", x.bears(-1, 1), BAD);
        due(25, "bears(0, 201)", x.bears(0, 201), BAD);
        due(25, "bears(0, -1)", x.bears(0, -1), BAD);
        due(25, "the row is as it was", x.row(0, 0), 9);
        x.alter(0, 0, 2);
        due(25, "a sulky one bears none", x.bears(0, 1), 0);
        x.alter(0, 0, 0);
        x.alter(0, 2, 1);
        due(25, "just one", x.bears(0, 1), 1);
        GeyserNerves more = of("faint 1 2;flow 4;calm 7;hour 7 0;hour 2 1;hour 9 1;");
        due(25, "9, though fewer are too many", more.bears(0, 6), 9);
    }

    private static void flow() {
        GeyserNerves x = of("plain 10 9;flow 3;hour 9 4;");
        due(26, "flow(0, 1, 1)", x.flow(0, 1, 1), 10);
        due(26, "flow(0, 2, 1)", x.flow(0, 2, 1), 5);
        due(26, "flow(0, 2, 2)", x.flow(0, 2, 2), 10);
        due(26, "flow(0, 0, 0)", x.flow(0, 0, 0), 0);
        due(26, "flow(0, 0, 1)", x.flow(0, 0, 1), NONE);
        due(26, "flow(0, 200, 20)", x.flow(0, 200, 20), 1);
        due(26, "FLOW is as it was", x.rule(3), 3);
        x.alter(0, 1, 40);
        due(26, "by 40", x.flow(0, 1, 1), 40);
        x.alter(0, 1, 41);
        due(26, "by none", x.flow(0, 1, 1), NONE);
        int[][] bad = {{1, 1, 1}, {-1, 1, 1}, {0, 201, 1}, {0, -1, 1}, {0, 1, 21}, {0, 1, -1}};
        for (int[] it : bad) {
            due(26, "a wrong one", x.flow(it[0], it[1], it[2]), BAD);
        }
        GeyserNerves two = of("plain 10 9;plain 10 9;");
        due(26, "the first has 1 more", two.flow(0, 1, 1), 19);
        due(26, "the second has not", two.flow(1, 1, 1), 20);
    }

    private static void kind() {
        GeyserNerves x = of("faint 4 0;flow 4;calm 0;hour 0 4;");
        due(27, "all alike", x.kind(0, 5, 0), 0);
        due(27, "all alike", x.kind(0, 5, 1), 5);
        due(27, "n of 0", x.kind(0, 0, 0), 0);
        due(27, "n of 0", x.kind(0, 0, 1), 0);
        due(27, "the KIND is as it was", x.geyser(0, 0), 3);
        int[][] bad = {{1, 1, 1}, {-1, 1, 1}, {0, 201, 1}, {0, -1, 1}, {0, 1, 2}, {0, 1, -1}};
        for (int[] it : bad) {
            due(27, "a wrong one", x.kind(it[0], it[1], it[2]), BAD);
        }
        GeyserNerves shy = of("faint 5 1;flow 5;calm 2;hour 8 2;hour 2 0;");
        due(27, "it had better be shy", shy.kind(0, 6, 0), 1);
        due(27, "it had better be shy", shy.kind(0, 6, 1), 2);
        GeyserNerves faint = of("sulky 4 2;sulky 1 6;flow 10;calm 6;hour 9 4;hour 2 1;hour 0 0;hour 7 2;");
        due(27, "it had better faint", faint.kind(0, 8, 0), 3);
        due(27, "it had better faint", faint.kind(0, 8, 1), 3);
        GeyserNerves two = of("plain 1 9;sulky 4 9;flow 8;hour 5 4;");
        due(27, "it alone counts", two.kind(1, 5, 1), 5);
        due(27, "it alone counts", two.kind(1, 5, 0), 0);
    }

    private static void play() {
        GeyserNerves x = of("plain 8 0;");
        due(28, "play(0, 0)", x.play(0, 0), 0);
        due(28, "play(0, 1)", x.play(0, 1), NONE);
        due(28, "play(1, 0), too cold", x.play(1, 0), 0);
        due(28, "play(1, 1), all alike", x.play(1, 1), 0);
        x.alter(0, 3, 6);
        due(28, "play(1, 0), with the actor", x.play(1, 0), 1);
        due(28, "play(1, 1)", x.play(1, 1), 0);
        x.tell(1, 2);
        due(28, "play(1, 0), calmed too little", x.play(1, 0), 0);
        due(28, "nothing is changed", x.geyser(0, 3) + x.rule(2), 6);
        int[][] bad = {{5, 0}, {-1, 0}, {1, 2}, {1, -1}, {FAR, 1}, {LOW, 1}};
        for (int[] it : bad) {
            due(28, "play(" + it[0] + ", " + it[1] + ")", x.play(it[0], it[1]), BAD);
        }
        GeyserNerves two = of("plain 8 9;plain 8 0;flow 16;calm 9;");
        due(28, "both, if he is with the second", two.play(1, 0), 2);
        due(28, "with the second", two.play(1, 1), 1);
        due(28, "for 4 HOURS", two.play(4, 0), 8);
        due(28, "for 4 HOURS", two.play(4, 1), 1);
        two.cut(0);
        due(28, "none is there", two.play(3, 0), 0);
        due(28, "none is there", two.play(3, 1), 4);
    }

    private static void odds() {
        GeyserNerves x = of("plain 8 0;hour 9 4;");
        long[][] luck = {{3, 1, 3, 10}, {5, 1, 1, 2}, {0, 1, 0, 1}, {10, 1, 1, 1}, {3, 2, 51, 100}, {4, 2, 16, 25},
            {7, 0, 0, 1}, {10, 8, 1, 1}};
        for (long[] it : luck) {
            due(29, "luck by " + it[0] + ", above", x.luck((int) it[0], 0, (int) it[1], 0), it[2]);
            due(29, "luck by " + it[0] + ", below", x.luck((int) it[0], 0, (int) it[1], 1), it[3]);
        }
        long[][] mean = {{3, 1, 3, 10}, {3, 2, 3, 5}, {5, 2, 1, 1}, {0, 1, 0, 1}, {10, 8, 8, 1}, {4, 0, 0, 1}};
        for (long[] it : mean) {
            due(30, "mean by " + it[0] + ", above", x.mean((int) it[0], (int) it[1], 0), it[2]);
            due(30, "mean by " + it[0] + ", below", x.mean((int) it[0], (int) it[1], 1), it[3]);
        }
        int[][] bad = {{-1, 0, 1, 0}, {11, 0, 1, 0}, {5, 1, 1, 0}, {5, -1, 1, 0}, {5, 0, 9, 0}, {5, 0, -1, 0},
            {5, 0, 1, 2}, {5, 0, 1, -1}};
        for (int[] it : bad) {
            due(29, "a wrong luck", x.luck(it[0], it[1], it[2], it[3]), BAD);
            if (it[1] == 0) {
                due(30, "a wrong mean", x.mean(it[0], it[2], it[3]), BAD);
            }
        }
        due(29, "nothing is changed", x.rule(2) + x.rule(8), 0);
        x.set(0, 1, 0);
        x.tell(1, 9);
        due(29, "the actor is where he is", x.luck(0, 0, 1, 0), 1);
        GeyserNerves two = of("plain 4 0;plain 4 9;hour 9 4;");
        due(30, "of all", two.mean(1, 1, 0), 11);
        due(30, "of all", two.mean(1, 1, 1), 10);
        due(29, "of one", two.luck(1, 1, 1, 0), 1);
        // 9 watchers put it off in HOUR 0: it goes up only without anybody, and only if the heat does.
        GeyserNerves never = of("plain 60 0;flow 40;hour 9 4;hour 9 4;");
        never.alter(0, 3, 19);
        due(29, "the heat just misses", never.luck(1, 0, 1, 0), 0);
        never.alter(0, 3, 20);
        due(29, "the heat just does", never.luck(1, 0, 1, 1), 10);
        due(30, "no geysers", new GeyserNerves().mean(5, 8, 1), 1);
    }

    private static void seeing() {
        GeyserNerves x = of("plain 8 5;hour 5 4;");
        due(33, "all KINDS without SEEN", x.kinds(0), 15);
        due(34, "all NERVES without SEEN", x.nerves(0), 1023);
        due(35, "ask(0, 0)", x.ask(0, 0), 0);
        due(35, "ask(0, 1)", x.ask(0, 1), 5);
        due(31, "see(0, 0, 1)", x.see(0, 0, 1), 1);
        due(33, "kinds that go up", x.kinds(0), 3);
        due(34, "nerves that go up", x.nerves(0), 992);
        due(35, "nothing more to ask", x.ask(0, 0), NONE);
        due(35, "nothing more to ask", x.ask(0, 1), NONE);
        due(32, "forget(2)", x.forget(2), BAD);
        due(32, "forget(-1)", x.forget(-1), BAD);
        due(32, "forget(0)", x.forget(0), 1);
        due(31, "see(0, 0, 0)", x.see(0, 0, 0), 1);
        due(33, "kinds that do not", x.kinds(0), 12);
        due(34, "nerves that do not", x.nerves(0), 31);
        due(33, "the KIND is as it was", x.geyser(0, 0), 0);
        due(34, "the NERVE is as it was", x.geyser(0, 2), 5);
        int[][] bad = {{41, 0, 1}, {-1, 0, 1}, {0, 1, 1}, {0, -1, 1}, {0, 0, 2}, {0, 0, -1}};
        for (int[] it : bad) {
            due(31, "a wrong one", x.see(it[0], it[1], it[2]), BAD);
        }
        due(33, "kinds(1)", x.kinds(1), BAD);
        due(33, "kinds(-1)", x.kinds(-1), BAD);
        due(34, "nerves(1)", x.nerves(1), BAD);
        due(34, "nerves(-1)", x.nerves(-1), BAD);
        due(35, "ask(1, 0)", x.ask(1, 0), BAD);
        due(35, "ask(-1, 0)", x.ask(-1, 0), BAD);
        due(35, "ask(0, 2)", x.ask(0, 2), BAD);
        due(35, "ask(0, -1)", x.ask(0, -1), BAD);
        due(31, "see(40, 0, 0)", x.see(40, 0, 0), 2);
        for (int i = 3; i <= 6; i++) {
            due(31, "see, " + i, x.see(1, 0, 1), i);
        }
        due(31, "the 7th", x.see(1, 0, 1), FULL);
        due(31, "a bad 7th", x.see(41, 0, 1), BAD);
        due(32, "forget(6)", x.forget(6), 6);
        due(32, "forget(1)", x.forget(1), 6);
        due(32, "one is left", x.count(0), 1);
        due(34, "the first is left", x.nerves(0), 31);
        x.forget(0);
        x.see(0, 0, 0);
        x.see(0, 0, 1);
        due(33, "what can not be", x.kinds(0), 0);
        due(34, "what can not be", x.nerves(0), 0);
        due(35, "what can not be", x.ask(0, 0), NONE);
        GeyserNerves two = of("plain 4 9;plain 4 9;hour 5 4;");
        two.see(0, 1, 1);
        due(33, "of the other", two.kinds(0), 15);
        due(34, "of the other", two.nerves(0), 1023);
        two.cut(1);
        due(33, "of the other, that is there no more", two.kinds(0), 0);
        due(34, "of the other, that is there no more", two.nerves(0), 0);
        two.forget(0);
        two.open(0, 60, 0);
        two.see(0, 1, 0);
        two.cut(1);
        due(33, "it never goes up", two.kinds(0), 15);
        // NERVE 0 goes up in HOUR 40 for the first time, the others in HOUR 20.
        GeyserNerves far = of("plain 21 4;flow 1;hour 1 4;");
        far.see(40, 0, 1);
        due(34, "up in HOUR 40", far.nerves(0), 1);
        far.forget(0);
        far.see(40, 0, 0);
        due(34, "not up in HOUR 40", far.nerves(0), 1022);
        far.forget(0);
        far.alter(0, 1, 41);
        due(35, "HOUR 40 alone tells", far.ask(0, 0), 40);
        due(35, "9 at the worst", far.ask(0, 1), 9);
        far.alter(0, 1, 42);
        due(35, "HOUR 41 is too far", far.ask(0, 0), NONE);
        // SEEN tells of hours from now on, whenever now is.
        GeyserNerves later = of("plain 16 9;hour 9 4;");
        later.see(1, 0, 1);
        due(34, "up in HOUR 1", later.nerves(0), 512);
        later.hours(1);
        due(34, "up in HOUR 1 from then on", later.nerves(0), 480);
    }

    private static void seasons() {
        // 1 grows to 16838, 5758, 10113, 17515, 31051: watchers 8, 8, 3, 5, 1.
        GeyserNerves x = of("plain 60 0;flow 0;");
        int[] frets = {8, 16, 19, 20, 20};
        for (int n = 1; n <= 5; n++) {
            due(36, "season(1, " + n + ", 1)", x.season(1, n, 1), frets[n - 1]);
        }
        due(36, "season(1, 5, 0)", x.season(1, 5, 0), 0);
        due(36, "by itself", x.rule(2) + x.geyser(0, 4), 0);
        x.alter(0, 1, 8);
        x.alter(0, 2, 7);
        x.tell(0, 8);
        due(36, "how often", x.season(1, 5, 0), 4);
        int[][] bad = {{1, 0, 0}, {1, -1, 0}, {1, 201, 0}, {1, 1, 2}, {1, 1, -1}};
        for (int[] it : bad) {
            due(36, "a wrong one", x.season(it[0], it[1], it[2]), BAD);
        }
        due(36, "any seed", x.season(LOW, 1, 1), x.season(0, 1, 1));
        x.alter(0, 1, 60);
        x.alter(0, 2, 0);
        x.tell(0, 0);
        x.tell(1, 5);
        x.add(0, 0);
        x.add(0, 4);
        due(36, "with the actor by the plan", x.season(1, 1, 1), 3);
        due(36, "with the actor by the plan", x.season(1, 2, 1), 11);
        due(36, "with the actor by the plan", x.season(1, 3, 1), 9);
        x.cut(0);
        due(36, "no geysers", x.season(1, 1, 0), STATE);
        due(36, "no geysers, a wrong one", x.season(1, 0, 0), BAD);
    }

    private static void images() {
        GeyserNerves x = of("plain 10 2;shy 9 1;flow 4;calm 3;hour 5 0;hour 0 4;");
        x.hours(5);
        int went = x.rule(5);
        int heats = x.rule(8);
        due(37, "keep(2)", x.keep(2), BAD);
        due(37, "keep(-1)", x.keep(-1), BAD);
        due(37, "keep(1)", x.keep(1), 0);
        due(37, "keep(1) again", x.keep(1), 1);
        due(37, "IMAGES", x.count(1), 1);
        due(38, "back(0)", x.back(0), STATE);
        due(38, "back(2)", x.back(2), BAD);
        due(38, "back(-1)", x.back(-1), BAD);
        x.hours(20);
        x.see(3, 1, 0);
        x.cut(0);
        x.drop(1);
        x.set(0, 0, 1);
        x.tell(0, 9);
        x.tell(1, 9);
        x.open(3, 3, 3);
        due(37, "keep(0)", x.keep(0), 0);
        due(38, "back(1)", x.back(1), 5);
        due(38, "GEYSERS", x.rule(0), 2);
        due(38, "KIND", x.geyser(0, 0), 0);
        due(38, "WENT", x.rule(5), went);
        due(38, "HEATS", x.rule(8), heats);
        due(38, "FLOW", x.rule(3), 4);
        due(38, "calms", x.rule(4), 3);
        due(38, "SEEN stay", x.count(0), 1);
        duePlan(38, x, 5, 0, 0, 4);
        x.hours(3);
        due(38, "back(1) again", x.back(1), 5);
        due(38, "back(0) then", x.back(0), 25);
        due(38, "GEYSERS then", x.rule(0), 1);
        due(38, "KIND then", x.geyser(0, 0), 3);
        duePlan(38, x, 1, 0);
        due(38, "IMAGES", x.count(1), 2);
    }

    private static void sheets() {
        GeyserNerves x = new GeyserNerves();
        due(39, "sheet(4, 0, 1)", x.sheet(4, 0, 1), BAD);
        due(39, "sheet(-1, 0, 1)", x.sheet(-1, 0, 1), BAD);
        due(39, "sheet(0, 3, 1)", x.sheet(0, 3, 1), BAD);
        due(39, "sheet(0, -1, 1)", x.sheet(0, -1, 1), BAD);
        due(39, "sheet(0, 0, 41)", x.sheet(0, 0, 41), BAD);
        due(39, "sheet(0, 3, -1)", x.sheet(0, 3, -1), BAD);
        due(39, "sheet(0, 0, -1)", x.sheet(0, 0, -1), -14);
        due(39, "sheet(0, 0, LOW)", x.sheet(0, 0, LOW), -14);
        due(39, "there is nothing yet", x.count(3), NONE);
        due(39, "sheet(0, 0, 0)", x.sheet(0, 0, 0), 1);
        due(39, "CELLS", x.count(3), 0);
        due(40, "lay(0, 0, 1)", x.lay(0, 0, 1), -12);
        due(39, "sheet(0, 2, 40)", x.sheet(0, 2, 40), 1);
        due(39, "CELLS", x.count(3), 40);
        due(39, "sheet(0, 2, -1)", x.sheet(0, 2, -1), -14);
        due(39, "CELLS stay", x.count(3), 40);
        due(40, "lay(0, 39, 1)", x.lay(0, 39, 1), 1);
        due(40, "lay(0, 40, 1)", x.lay(0, 40, 1), -12);
        due(40, "lay(0, -1, 1)", x.lay(0, -1, 1), -12);
        due(40, "lay(0, LOW, 1)", x.lay(0, LOW, 1), -12);
        due(40, "lay(0, FAR, 1)", x.lay(0, FAR, 1), -12);
        due(40, "lay(4, 0, 1)", x.lay(4, 0, 1), BAD);
        due(40, "lay(-1, 0, 1)", x.lay(-1, 0, 1), BAD);
        due(40, "lay(3, -1, 1)", x.lay(3, -1, 1), -11);
        // The lowest bits: 16 of them in a row of shorts.
        x.sheet(1, 0, 2);
        x.lay(1, 0, 65536 + 7);
        x.lay(1, 1, -65536 + 2);
        due(40, "shorts hold 16 bits", x.read(1, 0, 0, 1), 1);
        duePlan(40, x, 7, 2);
        for (int lane = 1; lane < 3; lane++) {
            x.sheet(1, lane, 2);
            x.lay(1, 0, 65536 + 7);
            due(40, "others hold all", x.read(1, lane, 0, 1), -20);
        }
        x.sheet(2, 1, 2);
        x.lay(2, 0, 9);
        x.sheet(2, 1, 2);
        x.read(2, 1, 0, 1);
        duePlan(39, x, 7, 2, 0, 0);
    }

    private static GeyserNerves withSheet(int lane, int... cells) {
        GeyserNerves x = of("plain 5 5;hour 1 4;");
        x.sheet(1, lane, cells.length);
        for (int i = 0; i < cells.length; i++) {
            x.lay(1, i, cells[i]);
        }
        return x;
    }

    private static void reading() {
        for (int lane = 0; lane < 3; lane++) {
            GeyserNerves x = withSheet(lane, 9, 4, 0, 3, 1, 5, 7, 0, 2);
            due(41, "read(4, ..)", x.read(4, lane, 0, 1), BAD);
            due(41, "read(-1, ..)", x.read(-1, lane, 0, 1), BAD);
            due(41, "lane 3", x.read(1, 3, 0, 1), BAD);
            due(41, "lane -1", x.read(1, -1, 0, 1), BAD);
            due(41, "n of 21", x.read(1, lane, 0, 21), BAD);
            due(41, "n of -1", x.read(1, lane, 0, -1), BAD);
            due(41, "two", x.read(1, lane, 0, 2), 2);
            due(42, "torn()", x.torn(), 0);
            duePlan(41, x, 1, 4, 9, 4, 0, 3);
            x.drop(1);
            due(41, "the third is refused", x.read(1, lane, 0, 3), -22);
            duePlan(41, x, 1, 4);
            due(41, "the second is refused", x.read(1, lane, 2, 20), -21);
            due(41, "the first is refused", x.read(1, lane, 4, 2), -20);
            due(41, "the row ends in the midst of one", x.read(1, lane, 6, 2), 1);
            due(42, "INDEX", x.torn(), 2);
            duePlan(41, x, 1, 4, 7, 0);
            due(41, "refused", x.read(1, lane, 4, 1), -20);
            due(42, "INDEX still", x.torn(), 2);
            due(41, "wrong", x.read(1, lane, 4, 21), BAD);
            due(42, "INDEX still", x.torn(), 2);
            due(41, "none", x.read(1, lane, 0, 0), 0);
            due(42, "none: 0", x.torn(), 0);
            due(41, "another lane", x.read(1, (lane + 1) % 3, 0, 1), 0);
            due(42, "CAST", x.torn(), 3);
            due(41, "another lane, and an index", x.read(1, (lane + 2) % 3, -5, 1), 0);
            due(42, "CAST", x.torn(), 3);
            due(41, "nothing", x.read(2, lane, -5, 1), 0);
            due(42, "NULL", x.torn(), 1);
            int[] far = {-1, -2, 9, 8, FAR, FAR - 1, LOW};
            for (int f : far) {
                x.read(1, lane, 0, 0);
                due(41, "from " + f, x.read(1, lane, f, 3), 0);
                due(42, "INDEX from " + f, x.torn(), 2);
            }
            duePlan(41, x, 1, 4, 7, 0);
        }
        GeyserNerves all = new GeyserNerves();
        for (int k = 0; k < 4; k++) {
            due(39, "sheet " + k, all.sheet(k, 1, 2), 1);
            due(40, "lay on " + k, all.lay(k, 0, k), 1);
            due(41, "read of " + k, all.read(k, 1, 0, 1), 1);
        }
        duePlan(41, all, 0, 0, 1, 0, 2, 0, 3, 0);
        // What is not whole is not refused by add().
        GeyserNerves half = withSheet(1, 3, 3, 99);
        due(41, "the half one", half.read(1, 1, 0, 2), 1);
        due(42, "INDEX", half.torn(), 2);
        int[] cells = new int[40];
        GeyserNerves full = withSheet(0, cells);
        due(41, "12 at most", full.read(1, 0, 0, 12), -31);
        due(41, "11 more", full.read(1, 0, 0, 11), 11);
        due(41, "no more", full.read(1, 0, 0, 1), -20);
        due(41, "no more are whole", full.read(1, 0, 39, 1), 0);
        due(42, "INDEX", full.torn(), 2);
        due(41, "rows", full.rule(1), 12);
    }

    private static void counting() {
        GeyserNerves x = of("plain 20 3;shy 14 5;hour 9 0;hour 2 4;");
        x.see(1, 1, 1);
        x.see(1, 1, 1);
        x.keep(1);
        x.feed(1);
        x.feed(1);
        x.feed(1);
        x.sheet(0, 1, 7);
        int[] counts = {2, 1, 3, 7, 34, 11};
        for (int what = 0; what < counts.length; what++) {
            due(43, "count(" + what + ")", x.count(what), counts[what]);
        }
        due(43, "count(6)", x.count(6), BAD);
        due(43, "count(-1)", x.count(-1), BAD);
        x.keep(0);
        due(43, "both IMAGES", x.count(1), 2);
    }
}
