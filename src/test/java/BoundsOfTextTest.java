/** Boundaries of what is fed and told by a text, and of what there is: promises 1 to 8 with their terms. */
public final class BoundsOfTextTest {
    private static final int BAD = Check.BAD, STATE = Check.STATE, FULL = Check.FULL, NONE = Check.NONE;
    private static final int FAR = Check.FAR, LOW = Check.LOW;
    private static final Check.Maker RICH = Check::rich, BRIM = Check::full;
    private static final Check check = new Check();

    public static void main(String[] args) {
        manyCalls();
        manyCallsMore();
        newObjectTells();
        newObjectIsAsked();
        newObjectRefuses();
        feedsBad();
        feedsFull();
        fedBytesAreKept();
        ends();
        endKeepsTheFirst();
        tapeIsEmptyThen();
        blanks();
        signsThatAreNoToken();
        numbersTooLong();
        tokensAreLong();
        namesThatBeginNoLine();
        tokensOutOfPlace();
        endsOutOfPlace();
        numbersOutOfBounds();
        linesTwice();
        linesTooMany();
        theFirstFaultMet();
        placesOnTheTape();
        whatWasToldStays();
        whatIsTakenTellsAll();
        faultIsOfTheLatest();
        rules();
        nobodyIsNone();
        sums();
        geysers();
        rows();
        check.end();
    }

    // ---- what it is, promise 1

    private static void manyCalls() {
        check.by("What it is: at most 512 calls");
        GeyserNerves x = new GeyserNerves();
        x.open(0, 8, 9);
        for (int i = 1; i < 256; i++) {
            check.due("hours(1), " + i, x.hours(1), 1);
            check.due("rule(2), " + i, x.rule(2), i);
        }
        check.due("the 512th call", x.rule(5), 255);
        GeyserNerves fed = new GeyserNerves();
        for (int i = 0; i < 256; i++) {
            check.due("feed, " + i, fed.feed('a'), Math.min(160, i) == 160 ? FULL : i + 1);
            check.due("count(2), " + i, fed.count(2), Math.min(160, i + 1));
        }
    }

    private static void manyCallsMore() {
        check.by("LANGUAGE 7: no call may ever throw");
        GeyserNerves x = Check.rich();
        for (int i = 0; i < 5000; i++) {
            x.hours(i % 101);
            x.feed(i % 128);
            x.read(i % 4, i % 3, i % 41, i % 21);
            x.ups(200);
            x.season(i, 200, 1);
            x.ask(0, 0);
        }
    }

    private static void newObjectTells() {
        check.by("Promise 1");
        GeyserNerves x = new GeyserNerves();
        int[] rules = {0, 0, 0, 8, 4, 0, 0, NONE, 0};
        for (int what = 0; what < rules.length; what++) {
            check.due("rule(" + what + ")", x.rule(what), rules[what]);
        }
        int[] counts = {0, 0, 0, NONE, 0, 0};
        for (int what = 0; what < counts.length; what++) {
            check.due("count(" + what + ")", x.count(what), counts[what]);
        }
        check.due("fault()", x.fault(), 0);
        check.due("torn()", x.torn(), 0);
        check.due("end(0)", x.end(0), 0);
        check.due("cut(0)", x.cut(0), 0);
        check.due("drop(0)", x.drop(0), 0);
        check.due("forget(0)", x.forget(0), 0);
        check.due("text()", x.text(), 0);
        check.due("keep(0)", x.keep(0), 0);
        check.due("keep(1)", x.keep(1), 0);
    }

    private static void newObjectIsAsked() {
        check.by("Promise 1");
        Check.Maker empty = GeyserNerves::new;
        for (int what = 0; what < 5; what++) {
            int w = what;
            check.keeps("runs(200, " + w + ")", empty, x -> x.runs(200, w), 0);
        }
        check.keeps("ups(0)", empty, x -> x.ups(0), 0);
        check.keeps("ups(200)", empty, x -> x.ups(200), 0);
        check.keeps("again()", empty, x -> x.again(), 1);
        check.keeps("route(0, 0)", empty, x -> x.route(0, 0), 0);
        check.keeps("route(4, 0)", empty, x -> x.route(4, 0), 0);
        check.keeps("route(4, 13)", empty, x -> x.route(4, 13), 4);
        check.keeps("swap(200, 0)", empty, x -> x.swap(200, 0), NONE);
        check.keeps("swap(200, 1)", empty, x -> x.swap(200, 1), NONE);
        check.keeps("play(4, 0)", empty, x -> x.play(4, 0), 0);
        check.keeps("play(4, 1)", empty, x -> x.play(4, 1), 4);
        check.keeps("play(0, 1)", empty, x -> x.play(0, 1), NONE);
        check.keeps("mean(10, 8, 0)", empty, x -> x.mean(10, 8, 0), 0);
        check.keeps("mean(10, 8, 1)", empty, x -> x.mean(10, 8, 1), 1);
        check.keeps("season(1, 1, 0)", empty, x -> x.season(1, 1, 0), STATE);
        check.keeps("back(0)", empty, x -> x.back(0), STATE);
        check.keeps("back(1)", empty, x -> x.back(1), STATE);
        for (int k = 0; k < 4; k++) {
            int sheet = k;
            check.keeps("lay(" + k + ", 0, 0)", empty, x -> x.lay(sheet, 0, 0), -11);
            check.due("read of " + k, new GeyserNerves().read(k, 0, 0, 1), 0);
        }
    }

    private static void newObjectRefuses() {
        check.by("Promise 1: no GEYSERS, no ROWS");
        Check.Maker empty = GeyserNerves::new;
        check.keeps("end(1)", empty, x -> x.end(1), BAD);
        check.keeps("geyser(0, 0)", empty, x -> x.geyser(0, 0), BAD);
        check.keeps("row(0, 0)", empty, x -> x.row(0, 0), BAD);
        check.keeps("alter(0, 0, 0)", empty, x -> x.alter(0, 0, 0), BAD);
        check.keeps("set(0, 0, 0)", empty, x -> x.set(0, 0, 0), BAD);
        check.keeps("cut(1)", empty, x -> x.cut(1), BAD);
        check.keeps("drop(1)", empty, x -> x.drop(1), BAD);
        check.keeps("ahead(0, 0, 0)", empty, x -> x.ahead(0, 0, 0), BAD);
        check.keeps("when(0)", empty, x -> x.when(0), BAD);
        check.keeps("whom(0, 0, 0)", empty, x -> x.whom(0, 0, 0), BAD);
        check.keeps("bears(0, 0)", empty, x -> x.bears(0, 0), BAD);
        check.keeps("flow(0, 0, 0)", empty, x -> x.flow(0, 0, 0), BAD);
        check.keeps("kind(0, 0, 0)", empty, x -> x.kind(0, 0, 0), BAD);
        check.keeps("luck(0, 0, 0, 0)", empty, x -> x.luck(0, 0, 0, 0), BAD);
        check.keeps("see(0, 0, 0)", empty, x -> x.see(0, 0, 0), BAD);
        check.keeps("forget(1)", empty, x -> x.forget(1), BAD);
        check.keeps("kinds(0)", empty, x -> x.kinds(0), BAD);
        check.keeps("nerves(0)", empty, x -> x.nerves(0), BAD);
        check.keeps("ask(0, 0)", empty, x -> x.ask(0, 0), BAD);
    }

    // ---- promises 2 and 3

    private static void feedsBad() {
        check.by("Promise 2: a byte (0 to 127); BAD");
        for (int c : new int[] {-1, 128, 255, 256, LOW, FAR, LOW + 32, 65536 + ' '}) {
            check.keeps("feed(" + c + ")", RICH, x -> x.feed(c), BAD);
            check.keeps("feed(" + c + ") when full", BRIM, x -> x.feed(c), BAD);
        }
        for (int c = 0; c < 128; c++) {
            check.due("feed(" + c + ")", Check.rich().feed(c), 9);
        }
    }

    private static void feedsFull() {
        check.by("Promise 2: FULL: more than 160");
        GeyserNerves x = new GeyserNerves();
        for (int i = 1; i <= 160; i++) {
            check.due("feed, " + i, x.feed(' '), i);
        }
        check.due("feed, 161", x.feed(' '), FULL);
        check.due("count(2)", x.count(2), 160);
        check.due("end(159)", x.end(159), 160);
        check.due("feed, 160 again", x.feed(' '), 160);
        check.due("feed, 161 again", x.feed(' '), FULL);
        for (int c : new int[] {0, 'a', ';', 127}) {
            check.keeps("feed(" + c + ") when full", BRIM, it -> it.feed(c), FULL);
        }
    }

    private static void fedBytesAreKept() {
        check.by("Terms: THE TAPE has 160 bytes");
        String all = "plain 60 9;flow 40;calm 20;" + "hour 9 4;".repeat(12);
        GeyserNerves x = Check.feed(new GeyserNerves(), all + " ".repeat(152 - all.length()) + "shy 5 5;");
        check.due("bytes", x.count(2), 160);
        check.due("one more", x.feed('z'), FULL);
        check.due("text() of 160 bytes", x.text(), 16);
        check.due("the last line's NEED", x.geyser(1, 1), 5);
        check.due("the last line's NERVE", x.geyser(1, 2), 5);
    }

    private static void ends() {
        check.by("Promise 3: BAD");
        for (int n : new int[] {-1, 9, 160, LOW, FAR}) {
            check.keeps("end(" + n + ") of 8", RICH, x -> x.end(n), BAD);
        }
        for (int n : new int[] {-1, 161, LOW, FAR}) {
            check.keeps("end(" + n + ") of 160", BRIM, x -> x.end(n), BAD);
        }
        check.keeps("end(8) of 8", RICH, x -> x.end(8), 8);
        check.keeps("end(160) of 160", BRIM, x -> x.end(160), 160);
        for (int n = 0; n <= 8; n++) {
            GeyserNerves x = Check.rich();
            check.due("end(" + n + ")", x.end(n), 8);
            check.due("bytes then", x.count(2), n);
            check.due("one more", x.end(n + 1), BAD);
            check.due("so many again", x.end(n), n);
        }
    }

    private static void endKeepsTheFirst() {
        check.by("Promise 3: its first n bytes");
        GeyserNerves x = Check.feed(new GeyserNerves(), "flow 12;zz");
        check.due("end(8)", x.end(8), 10);
        check.due("text()", x.text(), 1);
        check.due("FLOW", x.rule(3), 12);
        Check.feed(x, "flow 12");
        x.end(6);
        Check.feed(x, "3;");
        check.due("text() of what came behind", x.text(), 1);
        check.due("FLOW", x.rule(3), 13);
        Check.feed(x, "zz");
        check.due("end(0)", x.end(0), 2);
        check.due("text() of nothing", x.text(), 0);
    }

    // ---- promise 4

    /** A text on a rich object: its answer, its fault, an empty tape. */
    private static void reads(String bytes, int answer, int fault) {
        GeyserNerves x = Check.rich();
        x.end(0);
        check.due("text() of '" + bytes + "'", Check.text(x, bytes), answer);
        check.due("fault() of '" + bytes + "'", x.fault(), fault);
        check.due("bytes behind '" + bytes + "'", x.count(2), 0);
        check.due("GEYSERS behind '" + bytes + "'", answer < 0 ? x.rule(0) : 3, 3);
    }

    private static void tapeIsEmptyThen() {
        check.by("Promise 4: THE TAPE (empty then)");
        GeyserNerves x = Check.feed(new GeyserNerves(), "flow 9;");
        check.due("text()", x.text(), 1);
        check.due("bytes", x.count(2), 0);
        check.due("end(1)", x.end(1), BAD);
        check.due("text() again", x.text(), 0);
        check.due("FLOW", x.rule(3), 8);
        Check.feed(x, "flow");
        check.due("text() with a FAULT", x.text(), -14);
        check.due("bytes", x.count(2), 0);
        check.due("text() again", x.text(), 0);
        check.due("feed then", x.feed(' '), 1);
    }

    private static void blanks() {
        check.by("Terms: blanks (32) between");
        reads("", 0, 0);
        reads(" ", 0, 0);
        reads(" ".repeat(160), 0, 0);
        reads("flow 1;", 1, 0);
        reads("flow1;", 1, 0);
        reads("flow  1  ;  ", 1, 0);
        reads(" plain 1 2 ; shy3 4;", 2, 0);
        reads("hour 1 2;hour3 4;", 2, 0);
        reads("flow\t1;", -14, 1);
        reads("flow\n1;", -14, 1);
        reads("flow\u001f1;", -14, 1);
        reads("flow!1;", -14, 1);
    }

    private static void signsThatAreNoToken() {
        check.by("Terms: FAULT 1 no TOKEN");
        for (char c = 0; c < 128; c++) {
            boolean name = c >= 'a' && c <= 'z';
            boolean token = name || c >= '0' && c <= '9' || c == ';';
            if (c == ' ') {
                continue;
            }
            reads(c + "", -10, token ? 2 : 1);
            reads("flow 1;" + c, -17, token ? 2 : 1);
            reads("flow" + c, c >= '0' && c <= '9' ? -15 : name ? -10 : -14, token ? 2 : 1);
        }
        reads("Flow 1;", -10, 1);
        reads("flOw 1;", -10, 2);
        reads("flow 1;FLOW", -17, 1);
        reads("flow `", -15, 1);
        reads("flow {", -15, 1);
        reads("flow /", -15, 1);
        reads("flow :", -15, 1);
        reads("flow 1:", -16, 1);
        reads("flow 1<", -16, 1);
        reads("flow -1;", -15, 1);
        reads("flow +1;", -15, 1);
        reads("flow 1\0;", -16, 1);
        reads("flow 1\u007f;", -16, 1);
    }

    private static void numbersTooLong() {
        check.by("Terms: NUMBERS (1 or 2 figures); FAULT 1 a NUMBER that is too long (its first byte)");
        reads("flow 1;", 1, 0);
        reads("flow 01;", 1, 0);
        reads("flow 00;", 1, 0);
        reads("flow 10;", 1, 0);
        reads("flow 001;", -15, 1);
        reads("flow 100;", -15, 1);
        reads("flow 000;", -15, 1);
        reads("flow  0000000;", -16, 1);
        reads("plain 20 003;", -19, 1);
        reads("plain 020 3;", -16, 1);
        reads("hour 009", -15, 1);
        reads("123", -10, 1);
        reads("12", -10, 2);
        reads("flow 1;999", -17, 1);
        reads("flow 1234567890123456789012345678901234567890;", -15, 1);
        reads("flow 1 100;", -17, 1);
    }

    private static void tokensAreLong() {
        check.by("Terms: TOKENS, each as long as may be");
        reads("plainshy 1 1;", -10, 2);
        reads("flow12;", 1, 0);
        reads("flow1 2;", -16, 2);
        reads("plain2 0 3;", -19, 2);
        reads("plain12;", -17, 2);
        reads("plain1 2;shy3 4;", 2, 0);
        reads("flow1;calm2;", 2, 0);
        GeyserNerves x = Check.of("flow12;calm 07;");
        check.due("FLOW", x.rule(3), 12);
        check.due("CALMS", x.rule(4), 7);
    }

    private static void namesThatBeginNoLine() {
        check.by("Terms: FAULT 2 a NAME that begins no line");
        String[] names = {"plain", "shy", "sulky", "faint", "flow", "calm", "hour"};
        for (String name : names) {
            reads(name + "s 1 1;", -10, 2);
            reads(name.substring(0, name.length() - 1) + " 1 1;", -10, 2);
            reads(name.substring(1) + " 1 1;", -10, 2);
            reads("x" + name + " 1 1;", -10, 2);
            reads(name.substring(0, name.length() - 1) + "z 1 1;", -10, 2);
            reads("z" + name.substring(1) + " 1 1;", -10, 2);
            reads("flow 9; " + name + name + " 1;", -18, 2);
        }
        reads("a", -10, 2);
        reads("z", -10, 2);
        reads("a".repeat(160), -10, 2);
    }

    private static void tokensOutOfPlace() {
        check.by("Terms: FAULT 2 a TOKEN that can not stand there");
        reads(";", -10, 2);
        reads("1 flow;", -10, 2);
        reads("flow 1;;", -17, 2);
        reads("flow 1; 2", -18, 2);
        for (String head : new String[] {"plain", "shy", "sulky", "faint", "hour"}) {
            int behind = -10 - head.length();
            reads(head + ";", behind, 2);
            reads(head + " ;", behind - 1, 2);
            reads(head + " flow", behind - 1, 2);
            reads(head + " 1;", behind - 2, 2);
            reads(head + " 1 flow", behind - 3, 2);
            reads(head + " 1 2 3;", behind - 5, 2);
            reads(head + " 1 2 flow", behind - 5, 2);
        }
        for (String head : new String[] {"flow", "calm"}) {
            reads(head + ";", -14, 2);
            reads(head + " flow", -15, 2);
            reads(head + " 1 2;", -17, 2);
            reads(head + " 1 flow", -17, 2);
        }
    }

    private static void endsOutOfPlace() {
        check.by("Terms: FAULT 2 or the end: the length");
        for (String head : new String[] {"plain", "shy", "sulky", "faint", "hour"}) {
            for (String rest : new String[] {"", " ", " 1", " 1  ", " 1 2", " 1 2 "}) {
                reads(head + rest, -10 - head.length() - rest.length(), 2);
            }
            reads(head + " 1 2;", 1, 0);
        }
        for (String head : new String[] {"flow", "calm"}) {
            for (String rest : new String[] {"", "   ", " 1", " 1 "}) {
                reads(head + rest, -14 - rest.length(), 2);
            }
            reads(head + " 1;", 1, 0);
        }
        reads(" ".repeat(156) + "flow", -170, 2);
        reads("flow 1" + " ".repeat(154), -170, 2);
    }

    private static void numbersOutOfBounds() {
        check.by("Terms: FAULT 3 a NUMBER out of its bounds");
        for (String kind : new String[] {"plain", "shy", "sulky", "faint"}) {
            int behind = -10 - kind.length();
            reads(kind + " 0 5;", behind - 1, 3);
            reads(kind + " 1 5;", 1, 0);
            reads(kind + " 60 5;", 1, 0);
            reads(kind + " 61 5;", behind - 1, 3);
            reads(kind + " 99 5;", behind - 1, 3);
            reads(kind + " 9 0;", 1, 0);
            reads(kind + " 9 9;", 1, 0);
            reads(kind + " 9 10;", behind - 3, 3);
            reads(kind + " 9 99;", behind - 3, 3);
        }
        reads("flow 0;", 1, 0);
        reads("flow 40;", 1, 0);
        reads("flow 41;", -15, 3);
        reads("flow 99;", -15, 3);
        reads("calm 0;", 1, 0);
        reads("calm 20;", 1, 0);
        reads("calm 21;", -15, 3);
        reads("hour 0 0;", 1, 0);
        reads("hour 9 4;", 1, 0);
        reads("hour 10 4;", -15, 3);
        reads("hour 9 5;", -17, 3);
        reads("hour 0  99;", -18, 3);
    }

    private static void linesTwice() {
        check.by("Terms: FAULT 4 flow, calm for the second time (its NAME)");
        reads("flow 1;calm 1;", 2, 0);
        reads("calm 1;flow 1;", 2, 0);
        reads("flow 1;flow 1;", -17, 4);
        reads("calm 1; calm 1;", -18, 4);
        reads("flow 1;calm 2;flow 3;", -24, 4);
        reads("calm 1;flow 2;shy 3 3;calm", -32, 4);
        reads("shy 1 1;shy 1 1;hour 1 1;hour 1 1;", 4, 0);
        GeyserNerves x = Check.of("flow 1;calm 1;");
        check.due("each text anew", Check.text(x, "flow 2;calm 2;"), 2);
        check.due("each text anew, behind a FAULT", Check.text(x, "flow 2;z"), -17);
        check.due("each text anew, behind a FAULT", Check.text(x, "flow 3;"), 1);
    }

    private static void linesTooMany() {
        check.by("Terms: FAULT 5 the 5th GEYSER, the 13th ROW (its NAME)");
        String four = "plain 1 1;shy 1 1;sulky 1 1;faint 1 1;";
        reads(four, 4, 0);
        for (String kind : new String[] {"plain", "shy", "sulky", "faint"}) {
            reads(four + kind + " 1 1;", -10 - four.length(), 5);
            reads(four + "  " + kind, -12 - four.length(), 5);
        }
        reads(four + "hour 1 1;flow 1;calm 1;", 7, 0);
        String twelve = "hour 1 1;".repeat(12);
        reads(twelve, 12, 0);
        reads(twelve + "hour 1 1;", -118, 5);
        reads(twelve + " hour", -119, 5);
        reads(twelve + four, 16, 0);
        GeyserNerves x = Check.full();
        x.end(0);
        check.due("what there was does not count", Check.text(x, twelve + four), 16);
    }

    private static void theFirstFaultMet() {
        check.by("Terms: FAULTS, the first met as it is read");
        reads("plain 0 A", -16, 3);
        reads("plain A 0", -16, 1);
        reads("plain 61", -16, 3);
        reads("plain 9 10", -18, 3);
        reads("plain 9 10A", -18, 3);
        reads("plain 9 9A", -19, 1);
        reads("plain 100 A", -16, 1);
        reads("plain 0 100", -16, 3);
        reads("flow 41A", -15, 3);
        reads("flow 1;flow A", -17, 4);
        reads("flow 1;flows A", -17, 2);
        reads("plains A", -10, 2);
        reads("plain\0", -15, 1);
        reads("shy 1 1;".repeat(4) + "shy A", -42, 5);
        reads("shy 1 1;".repeat(4) + "shh A", -42, 2);
        reads("hour 1 1;".repeat(12) + "hour A", -118, 5);
        reads("hour 10 5;", -15, 3);
        reads("; A", -10, 2);
        reads("A ;", -10, 1);
    }

    private static void placesOnTheTape() {
        check.by("Promise 4: -10 less the place of its FAULT");
        for (int at = 0; at < 160; at++) {
            reads(" ".repeat(at) + "A", -10 - at, 1);
            reads(" ".repeat(at) + "z", -10 - at, 2);
        }
        reads(" ".repeat(155) + "flow1", -170, 2);
        reads(" ".repeat(155) + "flow;", -169, 2);
        reads(" ".repeat(153) + "flow 1;", 1, 0);
    }

    private static void whatWasToldStays() {
        check.by("Promise 4: that which was told stays");
        String[] faults = {"faint 9 9;flow 9;calm 9;hour 9 4;A", "faint 9 9;hour 9 4;flow", "faint 9 9;flow 9;calm 21;",
            "calm 9;flow 9;calm 9;", "shy 1 1;".repeat(5), "hour 9 4;".repeat(13)};
        int[] due = {1, 2, 3, 4, 5, 5};
        for (Check.Maker maker : new Check.Maker[] {RICH, BRIM}) {
            Check.Maker emptied = () -> {
                GeyserNerves x = maker.make();
                x.end(0);
                return x;
            };
            for (int i = 0; i < faults.length; i++) {
                String bytes = faults[i];
                check.sameBut("text() of '" + bytes + "'", emptied, x -> Check.text(x, bytes), "fault()");
                GeyserNerves x = emptied.make();
                Check.text(x, bytes);
                check.due("fault() of '" + bytes + "'", x.fault(), due[i]);
            }
        }
    }

    private static void whatIsTakenTellsAll() {
        check.by("Terms: a text that is taken tells all, in place of what there was");
        for (String bytes : new String[] {"", "faint 8 2;", "hour 3 3;", "flow 40;", "calm 0;"}) {
            GeyserNerves x = Check.full();
            x.tell(0, 33);
            x.tell(1, 11);
            x.end(0);
            check.due("text() of '" + bytes + "'", Check.text(x, bytes), bytes.isEmpty() ? 0 : 1);
            check.due("GEYSERS", x.rule(0), bytes.startsWith("faint") ? 1 : 0);
            check.due("ROWS", x.rule(1), bytes.startsWith("hour") ? 1 : 0);
            check.due("HOUR", x.rule(2), 0);
            check.due("FLOW", x.rule(3), bytes.startsWith("flow") ? 40 : 8);
            check.due("CALMS", x.rule(4), bytes.startsWith("calm") ? 0 : 4);
            check.due("WENT", x.rule(5), 0);
            check.due("HEATS", x.rule(8), 0);
            check.due("SEEN", x.count(0), 0);
            check.due("forget(1)", x.forget(1), BAD);
            check.due("IMAGES", x.count(1), 0);
            check.due("back(0)", x.back(0), STATE);
            check.due("back(1)", x.back(1), STATE);
            check.due("CELLS stay", x.count(3), 40);
            check.due("keep(0)", x.keep(0), 0);
        }
        GeyserNerves hot = Check.full();
        hot.alter(0, 3, 50);
        hot.alter(0, 4, 20);
        hot.end(0);
        Check.text(hot, "faint 8 2;");
        int[] geyser = {3, 8, 2, 0, 0, 0, 8, 0};
        for (int what = 0; what < geyser.length; what++) {
            check.due("geyser(0, " + what + ")", hot.geyser(0, what), geyser[what]);
        }
    }

    // ---- promise 5

    private static void faultIsOfTheLatest() {
        check.by("Promise 5: the FAULT of the latest text(); 0");
        String[] texts = {"A", "flow", "flow 41;", "flow 1;flow 1;", "shy 1 1;".repeat(5)};
        GeyserNerves x = new GeyserNerves();
        check.due("fault() at first", x.fault(), 0);
        for (int i = 0; i < texts.length; i++) {
            Check.text(x, texts[i]);
            check.due("fault()", x.fault(), i + 1);
            Check.feed(x, "A");
            x.end(0);
            x.feed(-1);
            check.due("fault() again", x.fault(), i + 1);
            x.keep(0);
            x.back(0);
            check.due("fault() again", x.fault(), i + 1);
        }
        check.due("a text that is taken", Check.text(x, "flow 1;"), 1);
        check.due("fault()", x.fault(), 0);
        Check.text(x, "A");
        check.due("fault()", x.fault(), 1);
        check.due("an empty text", x.text(), 0);
        check.due("fault()", x.fault(), 0);
    }

    // ---- promises 6 to 8

    private static void rules() {
        check.by("Promise 6: BAD");
        for (int what : new int[] {-1, 9, 10, LOW, FAR, LOW + 3}) {
            check.keeps("rule(" + what + ")", RICH, x -> x.rule(what), BAD);
        }
        int[] due = {3, 3, 7, 17, 6};
        for (int what = 0; what < due.length; what++) {
            int w = what;
            check.keeps("rule(" + what + ")", RICH, x -> x.rule(w), due[what]);
        }
        check.keeps("rule(8)", RICH, x -> x.rule(8) - x.geyser(0, 3) - x.geyser(1, 3) - x.geyser(2, 3), 0);
    }

    private static void nobodyIsNone() {
        check.by("Promise 6: 7 with whom THE ACTOR is in it (NONE: nobody)");
        GeyserNerves x = new GeyserNerves();
        check.due("without ROWS", x.rule(7), NONE);
        check.due("WATCHERS without ROWS", x.rule(6), 0);
        x.add(9, 4);
        check.due("nobody", x.rule(7), NONE);
        check.due("WATCHERS", x.rule(6), 9);
        for (int whom = 0; whom < 4; whom++) {
            x.set(0, 1, whom);
            check.due("with " + whom, x.rule(7), whom);
        }
        x.add(0, 4);
        x.hours(1);
        check.due("in HOUR 1", x.rule(7), NONE);
        check.due("WATCHERS of HOUR 1", x.rule(6), 0);
        x.hours(1);
        check.due("in HOUR 2", x.rule(7), 3);
        x.drop(0);
        check.due("without ROWS", x.rule(7), NONE);
        check.due("WATCHERS without ROWS", x.rule(6), 0);
    }

    private static void sums() {
        check.by("Promise 6: 5 how many times all WENT, summed, 8 HEATS, summed");
        GeyserNerves x = new GeyserNerves();
        for (int g = 0; g < 4; g++) {
            x.open(0, 1 + g, 9);
            x.alter(g, 3, 199);
            check.due("HEATS", x.rule(8), 199 * (g + 1));
        }
        x.hours(1);
        check.due("WENT", x.rule(5), 4);
        check.due("HEATS", x.rule(8), 0);
        x.hours(1);
        check.due("WENT by 2 each", x.rule(5), 6);
        check.due("HEATS by 2 each", x.rule(8), 4);
        x.cut(3);
        check.due("WENT of those that are there", x.rule(5), 5);
        check.due("HEATS of those that are there", x.rule(8), 2);
        x.cut(0);
        check.due("WENT of none", x.rule(5), 0);
        check.due("HEATS of none", x.rule(8), 0);
    }

    private static void geysers() {
        check.by("Promise 7: BAD");
        for (int g : new int[] {-1, 3, 4, LOW, FAR}) {
            check.keeps("geyser(" + g + ", 0)", RICH, x -> x.geyser(g, 0), BAD);
            check.keeps("geyser(" + g + ", 7)", RICH, x -> x.geyser(g, 7), BAD);
        }
        for (int what : new int[] {-1, 8, LOW, FAR}) {
            check.keeps("geyser(0, " + what + ")", RICH, x -> x.geyser(0, what), BAD);
            check.keeps("geyser(3, " + what + ")", BRIM, x -> x.geyser(3, what), BAD);
        }
        check.keeps("geyser(4, 0)", BRIM, x -> x.geyser(4, 0), BAD);
        int[][] due = {{0, 20, 3}, {1, 14, 5}, {2, 30, 2}};
        for (int g = 0; g < 3; g++) {
            for (int what = 0; what < 3; what++) {
                int it = g, w = what;
                check.keeps("geyser(" + g + ", " + what + ")", RICH, x -> x.geyser(it, w), due[g][what]);
            }
        }
        for (int g = 0; g < 4; g++) {
            int it = g;
            check.keeps("geyser(" + g + ", 1)", BRIM, x -> x.geyser(it, 1), 20 + g);
        }
        GeyserNerves x = Check.rich();
        x.cut(2);
        check.due("geyser(1, 0)", x.geyser(1, 0), 1);
        check.due("geyser(2, 0) behind cut(2)", x.geyser(2, 0), BAD);
    }

    private static void rows() {
        check.by("Promise 8: BAD");
        for (int i : new int[] {-1, 3, 4, LOW, FAR}) {
            check.keeps("row(" + i + ", 0)", RICH, x -> x.row(i, 0), BAD);
            check.keeps("row(" + i + ", 1)", RICH, x -> x.row(i, 1), BAD);
        }
        for (int what : new int[] {-1, 2, LOW, FAR}) {
            check.keeps("row(0, " + what + ")", RICH, x -> x.row(0, what), BAD);
        }
        check.keeps("row(12, 0)", BRIM, x -> x.row(12, 0), BAD);
        int[] due = {9, 0, 0, 4, 6, 2};
        for (int i = 0; i < 6; i++) {
            int at = i;
            check.keeps("row(" + i / 2 + ", " + i % 2 + ")", RICH, x -> x.row(at / 2, at % 2), due[i]);
        }
        for (int i = 0; i < 12; i++) {
            int at = i;
            check.keeps("row(" + i + ", 0)", BRIM, x -> x.row(at, 0), i % 10);
            check.keeps("row(" + i + ", 1)", BRIM, x -> x.row(at, 1), i % 5);
        }
        GeyserNerves x = Check.rich();
        x.drop(2);
        check.due("row(1, 1)", x.row(1, 1), 4);
        check.due("row(2, 0) behind drop(2)", x.row(2, 0), BAD);
    }
}
