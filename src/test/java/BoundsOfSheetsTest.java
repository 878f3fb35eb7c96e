/** Boundaries of images, of sheets and of what is counted: promises 37 to 43 with their terms. */
public final class BoundsOfSheetsTest {
    private static final int BAD = Check.BAD, STATE = Check.STATE, NONE = Check.NONE;
    private static final int FAR = Check.FAR, LOW = Check.LOW;
    private static final int NULL = 1, INDEX = 2, CAST = 3;
    private static final int[] NO_SHEET = {-1, 4, LOW, FAR}, NO_LANE = {-1, 3, LOW, FAR};
    private static final Check.Maker RICH = Check::rich, BRIM = Check::full;
    private static final Check check = new Check();

    public static void main(String[] args) {
        keepAtBounds();
        keepsAllOfThem();
        backBad();
        backState();
        backIsAsTheImage();
        sheetBad();
        sheetSize();
        sheetAtBounds();
        sheetIsNew();
        layBad();
        layFaults();
        layAtBounds();
        lowestBits();
        readBad();
        readAtBounds();
        readNone();
        readNull();
        readCast();
        readIndex();
        readWhatWasWhole();
        readRefusedBad();
        readRefusedFull();
        readTheFirstMet();
        tornIsOfTheLatest();
        countBad();
        countAtBounds();
        check.end();
    }

    // ---- promises 37 and 38

    private static void keepAtBounds() {
        check.by("Promise 37: IMAGE k (0, 1): whether there was one (1, 0). BAD");
        for (int k : new int[] {-1, 2, LOW, FAR}) {
            check.keeps("keep(" + k + ")", RICH, x -> x.keep(k), BAD);
            check.keeps("keep(" + k + ")", BRIM, x -> x.keep(k), BAD);
        }
        for (int k = 0; k < 2; k++) {
            GeyserNerves x = new GeyserNerves();
            check.due("keep(" + k + ")", x.keep(k), 0);
            check.due("keep(" + k + ") again", x.keep(k), 1);
            check.due("IMAGES", x.count(1), 1);
            check.due("keep(" + (1 - k) + ")", x.keep(1 - k), 0);
            check.due("IMAGES", x.count(1), 2);
            x.text();
            check.due("keep(" + k + ") behind a text", x.keep(k), 0);
        }
    }

    private static void keepsAllOfThem() {
        check.by("Promise 37: GEYSERS, ROWS (all of them), FLOW, by how much THE ACTOR CALMS, HOUR");
        GeyserNerves x = Check.full();
        x.tell(0, 40);
        x.tell(1, 20);
        for (int g = 0; g < 4; g++) {
            x.alter(g, 3, 100 + g);
            x.alter(g, 4, 16 + g);
        }
        int went = x.rule(5);
        check.due("keep(0)", x.keep(0), 1);
        x.hours(50);
        x.cut(0);
        x.drop(0);
        x.open(3, 60, 9);
        x.add(9, 4);
        x.tell(0, 0);
        x.tell(1, 0);
        check.due("back(0)", x.back(0), 9);
        check.due("GEYSERS", x.rule(0), 4);
        for (int g = 0; g < 4; g++) {
            int[] due = {g, 20 + g, g, 100 + g, 16 + g};
            for (int what = 0; what < due.length; what++) {
                check.due("geyser(" + g + ", " + what + ")", x.geyser(g, what), due[what]);
            }
        }
        check.due("WENT", x.rule(5), went);
        check.due("ROWS", x.rule(1), 12);
        for (int i = 0; i < 12; i++) {
            check.due("row(" + i + ", 0)", x.row(i, 0), i % 10);
            check.due("row(" + i + ", 1)", x.row(i, 1), i % 5);
        }
        check.due("HOUR", x.rule(2), 9);
        check.due("FLOW", x.rule(3), 40);
        check.due("CALMS", x.rule(4), 20);
    }

    private static void backBad() {
        check.by("Promise 38: BAD");
        for (int k : new int[] {-1, 2, LOW, FAR}) {
            check.keeps("back(" + k + ")", RICH, x -> x.back(k), BAD);
            check.keeps("back(" + k + ")", BRIM, x -> x.back(k), BAD);
            check.keeps("back(" + k + ") of a new one", GeyserNerves::new, x -> x.back(k), BAD);
        }
    }

    private static void backState() {
        check.by("Promise 38: STATE: there is none");
        check.keeps("back(0) of a new one", GeyserNerves::new, x -> x.back(0), STATE);
        check.keeps("back(1) of a new one", GeyserNerves::new, x -> x.back(1), STATE);
        check.keeps("back(1), there is IMAGE 0 alone", RICH, x -> x.back(1), STATE);
        GeyserNerves x = new GeyserNerves();
        x.keep(1);
        check.due("back(0), there is IMAGE 1 alone", x.back(0), STATE);
        check.due("back(1)", x.back(1), 0);
        x.text();
        check.due("back(1) behind a text", x.back(1), STATE);
        x.keep(1);
        Check.text(x, "flow");
        check.due("back(1) behind a text with a FAULT", x.back(1), 0);
    }

    private static void backIsAsTheImage() {
        check.by("Promise 38: all is as IMAGE k: HOUR");
        GeyserNerves x = Check.rich();
        check.due("back(0)", x.back(0), 4);
        check.due("HOUR", x.rule(2), 4);
        check.due("SEEN stay", x.count(0), 2);
        check.due("bytes stay", x.count(2), 8);
        check.due("IMAGES stay", x.count(1), 1);
        check.due("fault() stays", x.fault(), 2);
        check.due("torn() stays", x.torn(), CAST);
        check.due("CELLS stay", x.count(3), 4);
        x.alter(0, 1, 59);
        x.set(0, 0, 1);
        x.hours(5);
        check.due("back(0) again", x.back(0), 4);
        check.due("NEED", x.geyser(0, 1), 20);
        check.due("WATCHERS", x.row(0, 0), 9);
        x.cut(0);
        x.drop(0);
        check.due("keep(1) of nothing", x.keep(1), 0);
        x.back(0);
        check.due("back(1) to nothing", x.back(1), 4);
        check.due("GEYSERS", x.rule(0), 0);
        check.due("ROWS", x.rule(1), 0);
    }

    // ---- promises 39 and 40

    private static void sheetBad() {
        check.by("Promise 39: BAD: also n above 40");
        for (int k : NO_SHEET) {
            check.keeps("sheet(" + k + ", 0, 1)", RICH, x -> x.sheet(k, 0, 1), BAD);
            check.keeps("sheet(" + k + ", 0, -1)", RICH, x -> x.sheet(k, 0, -1), BAD);
        }
        for (int lane : NO_LANE) {
            check.keeps("sheet(0, " + lane + ", 1)", RICH, x -> x.sheet(0, lane, 1), BAD);
            check.keeps("sheet(0, " + lane + ", -1)", RICH, x -> x.sheet(0, lane, -1), BAD);
        }
        for (int n : new int[] {41, 42, FAR}) {
            check.keeps("sheet(0, 0, " + n + ")", RICH, x -> x.sheet(0, 0, n), BAD);
            check.keeps("sheet(3, 2, " + n + ")", BRIM, x -> x.sheet(3, 2, n), BAD);
        }
    }

    private static void sheetSize() {
        check.by("Promise 39: -10 - 4; 4 SIZE (below 0)");
        for (int k = 0; k < 4; k++) {
            for (int lane = 0; lane < 3; lane++) {
                for (int n : new int[] {-1, -2, -40, LOW}) {
                    int sheet = k, of = lane;
                    check.keeps("sheet(" + k + ", " + lane + ", " + n + ")", RICH, x -> x.sheet(sheet, of, n), -14);
                }
            }
        }
    }

    private static void sheetAtBounds() {
        check.by("Terms: SHEETS 0 to 3, rows with 0 to 40 CELLS");
        for (int k = 0; k < 4; k++) {
            for (int lane = 0; lane < 3; lane++) {
                for (int n : new int[] {0, 1, 39, 40}) {
                    GeyserNerves x = new GeyserNerves();
                    check.due("sheet(" + k + ", " + lane + ", " + n + ")", x.sheet(k, lane, n), 1);
                    check.due("CELLS of SHEET 0", x.count(3), k == 0 ? n : NONE);
                    check.due("CELL n less 1", x.lay(k, n - 1, 1), n == 0 ? -12 : 1);
                    check.due("CELL n", x.lay(k, n, 1), -12);
                    check.due("another SHEET", x.lay((k + 1) % 4, 0, 1), -11);
                }
            }
        }
    }

    private static void sheetIsNew() {
        check.by("Promise 39: a new row of CELLS 0");
        for (int lane = 0; lane < 3; lane++) {
            GeyserNerves x = Check.laid(new GeyserNerves(), 1, 1, 9, 3, 9, 3);
            check.due("sheet(1, " + lane + ", 4)", x.sheet(1, lane, 4), 1);
            check.due("read", x.read(1, lane, 0, 2), 2);
            for (int i = 0; i < 4; i++) {
                check.due("CELL " + i, x.row(i / 2, i % 2), 0);
            }
        }
        GeyserNerves x = Check.laid(new GeyserNerves(), 1, 1, 9, 3, 9, 3);
        x.sheet(1, 1, 2);
        x.sheet(1, 1, 4);
        check.due("read", x.read(1, 1, 2, 1), 1);
        check.due("WATCHERS", x.row(0, 0), 0);
    }

    private static void layBad() {
        check.by("Promise 40: BAD: k");
        for (int k : NO_SHEET) {
            check.keeps("lay(" + k + ", 0, 1)", RICH, x -> x.lay(k, 0, 1), BAD);
            check.keeps("lay(" + k + ", -1, 1)", RICH, x -> x.lay(k, -1, 1), BAD);
        }
    }

    private static void layFaults() {
        check.by("Promise 40: -10 less the FAULT: NULL, INDEX");
        for (int i : new int[] {0, -1, 40, LOW, FAR}) {
            check.keeps("lay(3, " + i + ", 1)", RICH, x -> x.lay(3, i, 1), -11);
        }
        int[] size = {4, 6, 2};
        for (int k = 0; k < 3; k++) {
            int sheet = k;
            for (int i : new int[] {-1, size[k], size[k] + 1, 40, LOW, FAR}) {
                check.keeps("lay(" + k + ", " + i + ", 1)", RICH, x -> x.lay(sheet, i, 1), -12);
            }
        }
        for (int i : new int[] {-1, 40, 41, LOW, FAR}) {
            check.keeps("lay(0, " + i + ", 1)", BRIM, x -> x.lay(0, i, 1), -12);
        }
        GeyserNerves x = new GeyserNerves();
        x.sheet(0, 2, 0);
        check.due("lay(0, 0, 1) on no CELLS", x.lay(0, 0, 1), -12);
    }

    private static void layAtBounds() {
        check.by("Promise 40: CELL i of a SHEET becomes v: 1");
        for (int k = 0; k < 4; k++) {
            int lane = k % 3;
            GeyserNerves x = Check.full();
            x.drop(0);
            check.due("CELL 0", x.lay(k, 0, 9), 1);
            check.due("CELL 39", x.lay(k, 39, 4), 1);
            check.due("read of CELL 0", x.read(k, lane, 0, 1), 1);
            check.due("read of CELL 38", x.read(k, lane, 38, 1), 1);
            int[] due = {9, 0, 0, 4};
            for (int i = 0; i < 4; i++) {
                check.due("row(" + i / 2 + ", " + i % 2 + ")", x.row(i / 2, i % 2), due[i]);
            }
            check.due("CELL 5 is as it was", x.read(k, lane, 5, 1), 1);
            check.due("CELL 5 is as it was", x.row(2, 0), k);
        }
    }

    /** What a ROW is, of which a lane's first CELL is v: its WATCHERS, or how it is refused. */
    private static int cellOf(int lane, int v) {
        GeyserNerves x = new GeyserNerves();
        Check.laid(x, 0, lane, v, 4);
        int came = x.read(0, lane, 0, 1);
        return came == 1 ? x.row(0, 0) : came;
    }

    private static void lowestBits() {
        check.by("Promise 40: (its lowest bits)");
        int[] values = {0, 9, 10, -1, 32767, 32768, 65535, 65536, 65536 + 9, 65536 + 10, -65536, -65536 + 9, -65537,
            0x12340003, LOW, LOW + 9, FAR, FAR - 65535};
        int[] shorts = {0, 9, -20, -20, -20, -20, -20, 0, 9, -20, 0, 9, -20, 3, 0, 9, -20, 0};
        for (int i = 0; i < values.length; i++) {
            check.due("SHORT of " + values[i], cellOf(0, values[i]), shorts[i]);
            int whole = values[i] >= 0 && values[i] <= 9 ? values[i] : -20;
            check.due("INT of " + values[i], cellOf(1, values[i]), whole);
            check.due("LONG of " + values[i], cellOf(2, values[i]), whole);
        }
    }

    // ---- promise 41

    private static void readBad() {
        check.by("Promise 41: BAD: k, lane, n");
        for (int k : NO_SHEET) {
            check.keeps("read(" + k + ", 1, 0, 1)", RICH, x -> x.read(k, 1, 0, 1), BAD);
            check.keeps("read(" + k + ", 1, 0, 0)", RICH, x -> x.read(k, 1, 0, 0), BAD);
        }
        for (int lane : NO_LANE) {
            check.keeps("read(1, " + lane + ", 0, 1)", RICH, x -> x.read(1, lane, 0, 1), BAD);
            check.keeps("read(3, " + lane + ", 0, 1)", RICH, x -> x.read(3, lane, 0, 1), BAD);
        }
        for (int n : new int[] {-1, 21, LOW, FAR}) {
            check.keeps("read(1, 1, 0, " + n + ")", RICH, x -> x.read(1, 1, 0, n), BAD);
            check.keeps("read(3, 0, -1, " + n + ")", RICH, x -> x.read(3, 0, -1, n), BAD);
        }
    }

    private static void readAtBounds() {
        check.by("Promise 41: n (0 to 20) ROWS, two CELLS each from CELL f on");
        for (int lane = 0; lane < 3; lane++) {
            int[] cells = new int[40];
            for (int i = 0; i < 40; i++) {
                cells[i] = i % 5;
            }
            for (int f = 0; f <= 38; f++) {
                GeyserNerves x = Check.laid(new GeyserNerves(), 2, lane, cells);
                int most = Math.min(12, (40 - f) / 2);
                check.due("read of " + most + " from " + f, x.read(2, lane, f, most), most);
                check.due("torn()", x.torn(), 0);
                check.due("ROWS", x.rule(1), most);
                for (int i = 0; i < most; i++) {
                    check.due("row(" + i + ", 0) from " + f, x.row(i, 0), (f + 2 * i) % 5);
                    check.due("row(" + i + ", 1) from " + f, x.row(i, 1), (f + 2 * i + 1) % 5);
                }
            }
        }
        check.by("Promise 41: one behind another as by add()");
        GeyserNerves x = Check.rich();
        check.due("read", x.read(1, 1, 0, 2), 2);
        int[] due = {9, 0, 0, 4, 6, 2, 9, 4, 0, 3};
        check.due("ROWS", x.rule(1), 5);
        for (int i = 0; i < due.length; i++) {
            check.due("row(" + i / 2 + ", " + i % 2 + ")", x.row(i / 2, i % 2), due[i]);
        }
    }

    private static void readNone() {
        check.by("Promise 41: n of 0");
        for (int f : new int[] {0, -1, 6, LOW, FAR}) {
            GeyserNerves x = Check.rich();
            check.due("read(1, 1, " + f + ", 0)", x.read(1, 1, f, 0), 0);
            check.due("ROWS", x.rule(1), 3);
            check.due("torn()", x.torn(), 0);
        }
        GeyserNerves full = Check.full();
        check.due("of none into 12 ROWS", full.read(0, 0, 0, 0), 0);
    }

    /** A read whose FAULT the machine finds: how many came ahead of it, and what it was. */
    private static void tears(Check.Maker maker, int k, int lane, int f, int n, int came, int fault) {
        String what = "read(" + k + ", " + lane + ", " + f + ", " + n + ")";
        GeyserNerves x = maker.make();
        int rows = x.rule(1);
        check.due(what, x.read(k, lane, f, n), came);
        check.due("torn() of " + what, x.torn(), fault);
        check.due("ROWS behind " + what, x.rule(1), rows + came);
    }

    private static void readNull() {
        check.by("Terms: 1 NULL (nothing), ahead of all others");
        for (int lane = 0; lane < 3; lane++) {
            for (int f : new int[] {0, -1, 40, LOW, FAR}) {
                tears(RICH, 3, lane, f, 1, 0, NULL);
                tears(RICH, 3, lane, f, 20, 0, NULL);
            }
        }
        Check.Maker refused = () -> {
            GeyserNerves x = Check.rich();
            x.sheet(3, 0, -1);
            return x;
        };
        tears(refused, 3, 0, 0, 1, 0, NULL);
    }

    private static void readCast() {
        check.by("Terms: 3 CAST (another lane), ahead of INDEX");
        for (int k = 0; k < 3; k++) {
            for (int lane = 0; lane < 3; lane++) {
                for (int f : new int[] {0, -1, 40, LOW, FAR}) {
                    if (lane != k) {
                        tears(RICH, k, lane, f, 1, 0, CAST);
                        tears(RICH, k, lane, f, 20, 0, CAST);
                    }
                }
            }
        }
        Check.Maker none = () -> Check.laid(Check.rich(), 3, 1);
        tears(none, 3, 0, 0, 1, 0, CAST);
        tears(none, 3, 1, 0, 1, 0, INDEX);
        tears(none, 3, 2, 0, 1, 0, CAST);
    }

    private static void readIndex() {
        check.by("Terms: 2 INDEX");
        for (int lane = 0; lane < 3; lane++) {
            int of = lane;
            Check.Maker maker = () -> Check.laid(Check.rich(), 3, of, 1, 2, 3, 4);
            for (int f : new int[] {-1, -2, -3, 3, 4, 5, 39, 40, LOW, LOW + 1, FAR, FAR - 1}) {
                tears(maker, 3, lane, f, 1, 0, INDEX);
                tears(maker, 3, lane, f, 20, 0, INDEX);
            }
            tears(maker, 3, lane, 2, 1, 1, 0);
            tears(maker, 3, lane, 2, 2, 1, INDEX);
            tears(maker, 3, lane, 1, 1, 1, 0);
            tears(maker, 3, lane, 1, 2, 1, INDEX);
            tears(maker, 3, lane, 0, 2, 2, 0);
            tears(maker, 3, lane, 0, 3, 2, INDEX);
            tears(maker, 3, lane, 0, 20, 2, INDEX);
        }
    }

    private static void readWhatWasWhole() {
        check.by("Promise 41: what the machine refuses: those that were whole ahead came");
        GeyserNerves x = Check.laid(new GeyserNerves(), 0, 0, 5, 1, 6, 2, 7);
        check.due("read", x.read(0, 0, 0, 3), 2);
        int[] due = {5, 1, 6, 2};
        for (int i = 0; i < due.length; i++) {
            check.due("row(" + i / 2 + ", " + i % 2 + ")", x.row(i / 2, i % 2), due[i]);
        }
        check.due("ROWS", x.rule(1), 2);
        check.due("torn()", x.torn(), INDEX);
        GeyserNerves twelve = new GeyserNerves();
        twelve.sheet(0, 2, 24);
        check.due("12 are whole, a 13th is not", twelve.read(0, 2, 0, 20), 12);
        check.due("torn()", twelve.torn(), INDEX);
        GeyserNerves half = Check.laid(new GeyserNerves(), 0, 1, 3, 3, 99);
        check.due("what is not whole is not refused by add()", half.read(0, 1, 0, 2), 1);
        check.due("torn()", half.torn(), INDEX);
    }

    private static void readRefusedBad() {
        check.by("Promise 41: -20 less i: the i-th, whole, is refused by add(): then none came");
        int[][] rows = {{10, 0}, {-1, 0}, {0, 5}, {0, -1}, {FAR, 0}, {0, LOW}, {9, 9}};
        for (int lane = 0; lane < 3; lane++) {
            for (int[] bad : rows) {
                for (int at = 0; at < 9; at++) {
                    int of = lane, i = at;
                    Check.Maker maker = () -> {
                        GeyserNerves x = Check.rich();
                        x.sheet(3, of, 18);
                        x.lay(3, 2 * i, bad[0]);
                        x.lay(3, 2 * i + 1, bad[1]);
                        return x;
                    };
                    // The lowest bits of LOW are a 0, that add() takes.
                    if (lane == 0 && bad[1] == LOW) {
                        continue;
                    }
                    check.keeps("read up to it", maker, x -> x.read(3, of, 0, i + 1), -20 - at);
                    check.keeps("read across it", maker, x -> x.read(3, of, 0, 9), -20 - at);
                    check.keeps("read from it", maker, x -> x.read(3, of, 2 * i, 1), -20);
                    check.due("read ahead of it", maker.make().read(3, of, 0, i), i);
                }
            }
        }
    }

    private static void readRefusedFull() {
        check.by("Promise 41: refused by add() (in either way)");
        for (int there = 0; there <= 12; there++) {
            int many = there;
            Check.Maker maker = () -> {
                GeyserNerves x = new GeyserNerves();
                for (int i = 0; i < many; i++) {
                    x.add(9, 4);
                }
                x.sheet(0, 1, 40);
                return x;
            };
            check.keeps("13 ROWS in all", maker, x -> x.read(0, 1, 0, 13 - many), -20 - (12 - many));
            check.keeps("20 more", maker, x -> x.read(0, 1, 0, 20), -20 - (12 - many));
            check.due("12 ROWS in all", maker.make().read(0, 1, 0, 12 - many), 12 - many);
        }
        check.keeps("a 13th", BRIM, x -> x.read(1, 1, 0, 1), -20);
        check.keeps("a 13th that is BAD too", () -> Check.laid(Check.full(), 0, 1, 99, 99), x -> x.read(0, 1, 0, 1), -20);
    }

    private static void readTheFirstMet() {
        check.by("Promise 41: the first met");
        Check.Maker refused = () -> Check.laid(Check.rich(), 3, 0, 1, 1, 10, 1, 2);
        check.keeps("refused ahead of INDEX", refused, x -> x.read(3, 0, 0, 3), -21);
        tears(refused, 3, 0, 0, 1, 1, 0);
        tears(refused, 3, 0, 3, 2, 1, INDEX);
        Check.Maker index = () -> Check.laid(Check.full(), 0, 0, 1, 1, 1);
        check.keeps("FULL ahead of INDEX", index, x -> x.read(0, 0, 0, 2), -20);
        tears(index, 0, 0, 2, 1, 0, INDEX);
        tears(index, 0, 1, 0, 1, 0, CAST);
        Check.Maker two = () -> Check.laid(Check.rich(), 3, 0, 1, 1, 10, 1, 11, 1);
        check.keeps("the first that is refused", two, x -> x.read(3, 0, 0, 3), -21);
    }

    // ---- promise 42

    private static void tornIsOfTheLatest() {
        check.by("Promise 42: the FAULT of the latest read() that came to an end; 0");
        GeyserNerves x = new GeyserNerves();
        check.due("torn() at first", x.torn(), 0);
        Check.laid(x, 0, 0, 1, 1, 99, 99);
        x.read(1, 0, 0, 1);
        check.due("NULL", x.torn(), NULL);
        check.due("BAD", x.read(4, 0, 0, 1), BAD);
        check.due("NULL still", x.torn(), NULL);
        check.due("refused", x.read(0, 0, 0, 2), -21);
        check.due("NULL still", x.torn(), NULL);
        x.read(0, 1, 0, 1);
        check.due("CAST", x.torn(), CAST);
        check.due("refused", x.read(0, 0, 2, 1), -20);
        check.due("CAST still", x.torn(), CAST);
        x.read(0, 0, 4, 1);
        check.due("INDEX", x.torn(), INDEX);
        x.sheet(0, 0, -1);
        x.lay(0, 99, 0);
        x.lay(1, 0, 0);
        check.due("INDEX still", x.torn(), INDEX);
        x.text();
        x.keep(0);
        x.back(0);
        check.due("INDEX still", x.torn(), INDEX);
        check.due("a whole one", x.read(0, 0, 0, 1), 1);
        check.due("0", x.torn(), 0);
    }

    // ---- promise 43

    private static void countBad() {
        check.by("Promise 43: BAD");
        for (int what : new int[] {-1, 6, 7, LOW, FAR}) {
            check.keeps("count(" + what + ")", RICH, x -> x.count(what), BAD);
            check.keeps("count(" + what + ")", GeyserNerves::new, x -> x.count(what), BAD);
        }
    }

    private static void countAtBounds() {
        check.by("Promise 43: how many; 3 CELLS of SHEET 0 (NONE: nothing)");
        int[][] due = {{0, 0, 0, NONE, 0, 0}, {2, 1, 8, 4, 64, 15}, {6, 2, 160, 40, 86, 46}};
        Check.Maker[] makers = {GeyserNerves::new, RICH, BRIM};
        for (int i = 0; i < 3; i++) {
            for (int what = 0; what < 6; what++) {
                int w = what;
                check.keeps("count(" + what + ") of " + i, makers[i], x -> x.count(w), due[i][what]);
            }
        }
        GeyserNerves x = new GeyserNerves();
        x.sheet(1, 0, 9);
        check.due("SHEET 1 is not SHEET 0", x.count(3), NONE);
        x.sheet(0, 0, -1);
        check.due("nothing still", x.count(3), NONE);
        x.sheet(0, 0, 0);
        check.due("no CELLS", x.count(3), 0);
        GeyserNerves cut = Check.full();
        cut.cut(2);
        check.due("NEEDS of those that are there", cut.count(4), 41);
        cut.drop(3);
        check.due("WATCHERS of those that are there", cut.count(5), 3);
        GeyserNerves most = Check.of("plain 60 0;plain 60 0;plain 60 0;plain 60 0;" + "hour 9 4;".repeat(12));
        check.due("NEEDS", most.count(4), 240);
        check.due("WATCHERS", most.count(5), 108);
    }
}
