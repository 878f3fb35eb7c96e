import java.util.ArrayList;
import java.util.HashMap;
import java.util.List;
import java.util.Map;

/** What the tests of boundaries share: answers compared with those due, and that a call leaves all as it was. */
final class Check {
    static final int BAD = -1, STATE = -2, FULL = -3, NONE = -4;
    static final int FAR = Integer.MAX_VALUE, LOW = Integer.MIN_VALUE;
    private static final int TELLINGS = 8;

    interface Maker {
        GeyserNerves make();
    }

    interface Call {
        long of(GeyserNerves x);
    }

    private final Map<Maker, List<List<String>>> untouched = new HashMap<>();
    private String sentence = "";
    private int asked = 0;
    private int wrong = 0;

    /** The sentence of the document that the next answers are due by. */
    void by(String words) {
        sentence = words;
    }

    void due(String what, long got, long want) {
        asked++;
        if (got != want) {
            blame(what + " answered " + got + ", due is " + want);
        }
    }

    private void blame(String what) {
        wrong++;
        System.out.println(sentence + ": " + what);
    }

    /** A call that is refused, or that asks alone: its answer, and that all that can be told is as it was. */
    void keeps(String what, Maker maker, Call call, long want) {
        due(what, call.of(maker.make()), want);
        sameAll(what, maker, call, "");
    }

    /** Likewise, but for those answers whose name begins so. */
    void sameBut(String what, Maker maker, Call call, String but) {
        sameAll(what, maker, call, but);
    }

    private void sameAll(String what, Maker maker, Call call, String but) {
        List<List<String>> before = untouched.computeIfAbsent(maker, Check::tellAll);
        for (int way = 0; way < TELLINGS; way++) {
            GeyserNerves x = maker.make();
            call.of(x);
            List<String> after = tell(x, way);
            asked++;
            for (int i = 0; i < Math.min(after.size(), before.get(way).size()); i++) {
                String was = before.get(way).get(i);
                if (!after.get(i).equals(was) && (but.isEmpty() || !was.startsWith(but))) {
                    blame(what + " has changed " + was + " to " + after.get(i));
                    break;
                }
            }
        }
    }

    private static List<List<String>> tellAll(Maker maker) {
        List<List<String>> all = new ArrayList<>();
        for (int way = 0; way < TELLINGS; way++) {
            all.add(tell(maker.make(), way));
        }
        return all;
    }

    /** All that can be told of an object; some ways change it, so that each wants an object of its own. */
    private static List<String> tell(GeyserNerves x, int way) {
        List<String> told = new ArrayList<>();
        if (way == 0) {
            tellNow(x, told);
            tellThen(x, told);
        } else if (way < 3) {
            told.add("back(" + (way - 1) + ") " + x.back(way - 1));
            tellNow(x, told);
        } else if (way == 3) {
            told.add("text() of the tape " + x.text());
            told.add("fault() of the tape " + x.fault());
            tellNow(x, told);
        } else {
            tellSheet(x, way - 4, told);
        }
        return told;
    }

    private static void tellNow(GeyserNerves x, List<String> told) {
        for (int what = 0; what < 9; what++) {
            told.add("rule(" + what + ") " + x.rule(what));
        }
        for (int g = 0; g < x.rule(0); g++) {
            for (int what = 0; what < 8; what++) {
                told.add("geyser(" + g + ", " + what + ") " + x.geyser(g, what));
            }
        }
        for (int i = 0; i < x.rule(1); i++) {
            told.add("row(" + i + ", 0) " + x.row(i, 0));
            told.add("row(" + i + ", 1) " + x.row(i, 1));
        }
        for (int what = 0; what < 6; what++) {
            told.add("count(" + what + ") " + x.count(what));
        }
        told.add("fault() " + x.fault());
        told.add("torn() " + x.torn());
    }

    private static void tellThen(GeyserNerves x, List<String> told) {
        for (int what = 0; what < 5; what++) {
            told.add("runs(30, " + what + ") " + x.runs(30, what));
        }
        told.add("again() " + x.again());
        told.add("season(5, 30, 0) " + x.season(5, 30, 0));
        told.add("play(2, 0) " + x.play(2, 0));
        for (int g = 0; g < x.rule(0); g++) {
            told.add("kinds(" + g + ") " + x.kinds(g));
            told.add("nerves(" + g + ") " + x.nerves(g));
        }
    }

    private static void tellSheet(GeyserNerves x, int k, List<String> told) {
        x.drop(0);
        for (int lane = 0; lane < 3; lane++) {
            told.add("read(" + k + ", " + lane + ", 0, 1) " + x.read(k, lane, 0, 1));
            told.add("torn() then " + x.torn());
            boolean other = x.torn() == 1 || x.torn() == 3;
            for (int f = 0; f <= 40 && !other; f++) {
                x.drop(0);
                told.add("read of cell " + f + " " + x.read(k, lane, f, 1) + ": " + x.row(0, 0) + " " + x.row(0, 1));
            }
            x.drop(0);
        }
    }

    void end() {
        System.out.println(wrong == 0 ? asked + " answers are as due" : wrong + " answers are not as due");
        if (wrong != 0) {
            System.exit(1);
        }
    }

    // ---- objects to begin with

    static GeyserNerves feed(GeyserNerves x, String bytes) {
        for (int i = 0; i < bytes.length(); i++) {
            x.feed(bytes.charAt(i));
        }
        return x;
    }

    static int text(GeyserNerves x, String bytes) {
        return feed(x, bytes).text();
    }

    static GeyserNerves of(String bytes) {
        GeyserNerves x = new GeyserNerves();
        if (text(x, bytes) < 0) {
            throw new IllegalStateException("a text of a test was refused: " + bytes);
        }
        return x;
    }

    /**
     * Something of everything, so that a change of anything shows: 3 GEYSERS, 3 ROWS, HOUR 7, 2 SEEN, IMAGE 0,
     * SHEETS 0 to 2 of lanes 0 to 2 (4, 6, 2 CELLS), 8 bytes on THE TAPE, fault() 2, torn() 3.
     */
    static GeyserNerves rich() {
        GeyserNerves x = new GeyserNerves();
        x.open(0, 20, 3);
        x.open(1, 14, 5);
        x.open(2, 30, 2);
        x.tell(0, 17);
        x.tell(1, 6);
        x.add(9, 0);
        x.add(0, 4);
        x.add(6, 2);
        x.hours(4);
        x.keep(0);
        x.hours(3);
        x.see(1, 0, x.ups(1) & 1);
        x.see(4, 1, x.ups(4) >> 1 & 1);
        laid(x, 0, 0, 1, 0, 2, 1);
        laid(x, 1, 1, 9, 4, 0, 3, 1, 5);
        laid(x, 2, 2, 7, 0);
        text(x, ";");
        x.read(1, 0, 0, 1);
        return feed(x, "shy 3 4;");
    }

    /** As much as may be: 4 GEYSERS, 12 ROWS, 6 SEEN, both IMAGES, 40 CELLS on each SHEET, 160 bytes. */
    static GeyserNerves full() {
        GeyserNerves x = new GeyserNerves();
        for (int g = 0; g < 4; g++) {
            x.open(g, 20 + g, g);
        }
        for (int i = 0; i < 12; i++) {
            x.add(i % 10, i % 5);
        }
        x.keep(0);
        x.hours(9);
        x.keep(1);
        for (int n = 0; n < 6; n++) {
            x.see(n, 3, x.ups(n) >> 3 & 1);
        }
        for (int k = 0; k < 4; k++) {
            x.sheet(k, k % 3, 40);
            x.lay(k, 5, k);
        }
        return feed(x, "faint 7 7;" + " ".repeat(150));
    }

    static GeyserNerves laid(GeyserNerves x, int k, int lane, int... cells) {
        x.sheet(k, lane, cells.length);
        for (int i = 0; i < cells.length; i++) {
            x.lay(k, i, cells[i]);
        }
        return x;
    }
}
