import java.util.function.IntToLongFunction;

/** Promise by promise, each boundary that it names: the last number taken, the first that is not, empty, full. */
public final class EdgesTest {
    private static final int BAD = -1, STATE = -2, FULL = -3, NONE = -4;
    private static final int LOWEST = Integer.MIN_VALUE, HIGHEST = Integer.MAX_VALUE;
    /** Three of each, so that number 3 is within the most and yet not there. */
    private static final String THREE = "plain 1 9;priest 2 9;miser 3 0;door 4;door 5 5;door;";
    private static final String FOUR = "plain 1 9;priest 2 9;miser 3 9;spy 4 9;door 1;door 2;door 3;door 4;";

    private static final Check check = new Check();

    public static void main(String[] args) {
        p01nothingYet(); p02feed(); p03end(); p04text(); p05fault(); p06rule(); p07visitor(); p08door(); p09plan();
        p10uses(); p11visit(); p12sky(); p13scrape(); p14alter(); p15ought(); p16plans(); p17cut();
        p18runs(); p19ahead(); p20clears(); p21best(); p21bestOfSeveral(); p22few(); p23reads();
        p24see(); p25forget(); p26pots(); p27rained(); p28orders(); p29luck(); p30mean(); p31drift();
        p32keep(); p33back(); p34sheet(); p35lay(); p36readNumbers(); p36readPairs(); p36readRefused(); p37torn(); p38count();
        check.finish();
    }

    private static void due(String call, long got, long want) {
        check.due(call, got, want);
    }

    private static DoorPaints town(String text) {
        return check.town(text);
    }

    /** From low to high a number is as told; all others are BAD, and none is cut to its lowest bits. */
    private static void bounds(String call, int low, int high, IntToLongFunction answer) {
        bad(call, answer, low - 1, high + 1, LOWEST, LOWEST + 1, HIGHEST, HIGHEST - 1);
        bad(call, answer, low + 256, high - 256, low + 65536, high - 65536, low ^ LOWEST, high ^ LOWEST);
        for (int n : new int[] {low, high}) {
            check.holds(call + " takes " + n, answer.applyAsLong(n) != BAD);
        }
    }

    private static void bad(String call, IntToLongFunction answer, int... numbers) {
        for (int n : numbers) {
            due(call + " with " + n, answer.applyAsLong(n), BAD);
        }
    }

    // ---- the text

    private static void p01nothingYet() {
        DoorPaints x = new DoorPaints();
        due("fault", x.fault(), 0);
        due("torn", x.torn(), 0);
        for (int what = 0; what <= 5; what++) {
            due("rule " + what, x.rule(what), 0);
        }
        int[] counts = {0, 0, 0, 0, NONE};
        for (int what = 0; what <= 4; what++) {
            due("count " + what, x.count(what), counts[what]);
        }
        due("visitor", x.visitor(0, 0), BAD);
        due("door", x.door(0, 0), BAD);
        due("plan", x.plan(0), BAD);
        due("uses", x.uses(0, 0), BAD);
        due("visit", x.visit(0, 0), BAD);
        due("scrape", x.scrape(0), BAD);
        due("alter", x.alter(0, 0, 0), BAD);
        due("ought", x.ought(0, 0, true), BAD);
        due("a VISIT in THE PLAN", x.plans(0), BAD);
        int[] runs = {0, 0, NONE, 0, 0};
        for (int what = 0; what <= 4; what++) {
            due("runs " + what, x.runs(what), runs[what]);
        }
        due("ahead", x.ahead(0), BAD);
        due("clears", x.clears(0), BAD);
        for (int n = 0; n <= 3; n++) {
            due("best: WRONG", x.best(n, 0), 0);
            due("best: PAINT", x.best(n, 1), 0);
            due("best: there are none", x.best(n, 10), NONE);
        }
        due("few", x.few(0), 0);
        due("few: not so many", x.few(10), NONE);
        due("reads", x.reads(0), BAD);
        due("see", x.see(0, 0, 0), BAD);
        due("pots", x.pots(0), BAD);
        due("luck", x.luck(5, 0, 0), BAD);
        due("mean", x.mean(5, 0), 0);
        due("mean by", x.mean(5, 1), 1);
        due("drift", x.drift(0, 1, 0), STATE);
        nothingToChange(x);
    }

    private static void nothingToChange(DoorPaints x) {
        due("end", x.end(0), 0);
        due("end 1", x.end(1), BAD);
        due("cut", x.cut(0), 0);
        due("cut 1", x.cut(1), BAD);
        due("forget", x.forget(0), 0);
        due("forget 1", x.forget(1), BAD);
        due("rained", x.rained(), 1);
        due("orders", x.orders(0), 1);
        due("orders: the last", x.orders(1), 0);
        for (int what = 0; what <= 2; what++) {
            due("sky", x.sky(what), 0);
        }
        for (int k = 0; k < 4; k++) {
            due("lay", x.lay(k, 0, 0), -11);
            due("read", x.read(k, 0, 0, 1), 0);
            due("NULL", x.torn(), 1);
        }
        due("back 0", x.back(0), STATE);
        due("back 1", x.back(1), STATE);
        due("keep nothing", x.keep(0), 0);
        due("back to nothing", x.back(0), 0);
        due("an HOUR in THE PLAN", x.plans(90), 1);
        due("text", x.text(), 0);
        due("it tells all", x.rule(2), 0);
        due("no IMAGE", x.back(0), STATE);
    }

    private static void p02feed() {
        for (int c = 0; c <= 127; c++) {
            due("feed " + c, new DoorPaints().feed(c), 1);
        }
        DoorPaints x = new DoorPaints();
        bad("feed", x::feed, -1, 128, 255, 256, 256 + 'd', 65536 + 'd', -128, -129, LOWEST, HIGHEST, LOWEST + 'd');
        due("none was taken", x.count(3), 0);
        for (int i = 1; i <= 159; i++) {
            x.feed(32);
        }
        due("159 bytes", x.count(3), 159);
        due("the 160th", x.feed('x'), 160);
        due("the 161st", x.feed('x'), FULL);
        bad("feed on a full one", x::feed, -1, 128, LOWEST, HIGHEST);
        due("160 bytes", x.count(3), 160);
        due("room for one", x.end(159), 160);
        due("the 160th once more", x.feed(';'), 160);
        due("the place of the last", x.text(), -10 - 159);
        due("empty", x.feed(32), 1);
    }

    private static void p03end() {
        DoorPaints x = new DoorPaints();
        bad("end of an empty one", x::end, -1, 1, 160, 161, LOWEST, HIGHEST);
        due("end 0 of none", x.end(0), 0);
        for (char c : "door 1x".toCharArray()) {
            x.feed(c);
        }
        bad("end of seven", x::end, -1, 8, 160, 161, 256, LOWEST, HIGHEST);
        due("seven still", x.count(3), 7);
        due("all seven", x.end(7), 7);
        due("the first six", x.end(6), 7);
        due("six", x.count(3), 6);
        due("behind them", x.feed(';'), 7);
        due("what was kept is read", x.text(), 1);
        check.layers(x, 0, 1);
        for (int i = 1; i <= 160; i++) {
            x.feed('x');
        }
        due("161 of a full one", x.end(161), BAD);
        due("160 of a full one", x.end(160), 160);
        due("full still", x.feed(32), FULL);
        due("1 of a full one", x.end(1), 160);
        due("none", x.end(0), 1);
        due("nothing is read", x.text(), 0);
    }

    private static void p04text() {
        DoorPaints x = town("door;door;door;door;plan;");
        due("five lines", x.rule(1), 4);
        StringBuilder most = new StringBuilder("door;door;door;door;plan;");
        for (int i = 0; i < 16; i++) {
            most.append("not ").append(i % 4).append(" ").append(i / 4).append(";");
        }
        x = town(most.toString());
        due("21 lines tell all", x.door(3, 2), 15);
        due("place 0", check.say(x, "A"), -10);
        due("the TAPE is empty", x.count(3), 0);
        due("place 1", check.say(x, " A"), -11);
        due("that which was told stays", x.door(3, 2), 15);
        due("an empty TAPE tells that there is nothing", x.text(), 0);
        due("no DOORS", x.rule(1), 0);
        due("once more", x.text(), 0);
    }

    private static void p05fault() {
        String[] texts = {"", "A", "doors;", "door 6;", "plan;plan;", "door 0 0 0 0 0 0 0;", "plan 0;"};
        for (int first = 0; first <= 6; first++) {
            for (int second = 0; second <= 6; second++) {
                DoorPaints x = new DoorPaints();
                check.say(x, texts[first]);
                due("FAULT", x.fault(), first);
                due("FAULT once more", x.fault(), first);
                check.say(x, texts[second]);
                due("FAULT of the latest", x.fault(), second);
            }
        }
        DoorPaints x = check.faulty("A", 1, 0);
        x.feed('B');
        x.end(0);
        x.visit(9, 9);
        x.sheet(0, 0, -1);
        due("nothing but text() changes it", x.fault(), 1);
    }

    private static void p06rule() {
        DoorPaints x = town(FOUR + "not 0 1;not 1 2;not 2 3;not 3 4;plan 90 90 90 90 90 90 90 90;");
        bounds("rule", 0, 5, x::rule);
        int[] want = {4, 4, 8, 0, 15, 36};
        for (int what = 0; what <= 5; what++) {
            due("rule " + what, x.rule(what), want[what]);
        }
        x.sky(1);
        due("all four are wet", x.rule(3), 15);
        for (int v = 0; v < 4; v++) {
            x.alter(v, 2, 99);
        }
        due("the most PAINT", x.rule(5), 396);
        for (int d = 0; d < 4; d++) {
            x = town(FOUR + "not " + d + " " + (d + 1) + ";");
            due("that one is WRONG", x.rule(4), 1 << d);
            x.visit(0, d);
            due("that one is wet", x.rule(3), 1 << d);
        }
    }

    private static void p07visitor() {
        DoorPaints x = town(THREE);
        bounds("visitor", 0, 2, v -> x.visitor(v, 2));
        bounds("visitor's what", 0, 4, what -> x.visitor(0, what));
        bounds("the last one's what", 0, 4, what -> x.visitor(2, what));
        DoorPaints y = town(FOUR);
        bounds("visitor of four", 0, 3, v -> y.visitor(v, 0));
        bad("what of no VISITOR", v -> y.visitor(v, 5), -1, 0, 3, 4);
    }

    private static void p08door() {
        DoorPaints x = town(THREE);
        bounds("door", 0, 2, d -> x.door(d, 0));
        bounds("door's what", 0, 3, what -> x.door(0, what));
        bounds("LAYER", 10, 15, what -> x.door(1, what));
        bad("between", what -> x.door(1, what), 4, 5, 6, 7, 8, 9, 16);
        due("the last LAYER", x.door(1, 11), 5);
        due("one above it", x.door(1, 12), NONE);
        due("the highest one", x.door(1, 15), NONE);
        due("the lowest of a bare one", x.door(2, 10), NONE);
        due("a bare one SHOWS", x.door(2, 1), NONE);
        DoorPaints y = town("door;door;door;door 0 0 0 0 0 5;");
        bounds("door of four", 0, 3, d -> y.door(d, 0));
        due("six LAYERS", y.door(3, 0), 6);
        due("the sixth", y.door(3, 15), 5);
        due("a seventh is not told of", y.door(3, 16), BAD);
    }

    private static void p09plan() {
        DoorPaints x = town("plan 90 91 92;");
        bounds("plan of three", 0, 2, x::plan);
        bad("beyond", x::plan, 3, 7, 8);
        DoorPaints y = town("plan 90 90 90 90 90 90 90 92;");
        bounds("plan of eight", 0, 7, y::plan);
        due("the eighth", y.plan(7), 92);
        y.cut(7);
        due("it is gone", y.plan(7), BAD);
        y.cut(0);
        due("all are gone", y.plan(0), BAD);
    }

    // ---- what is changed

    private static void p10uses() {
        DoorPaints x = town(THREE);
        bounds("uses' VISITOR", 0, 2, v -> x.uses(v, 0));
        bounds("uses' DOOR", 0, 2, d -> x.uses(0, d));
        bad("both", n -> x.uses(n, n), -1, 3, LOWEST, HIGHEST);
        DoorPaints y = town("plain 0 0;priest 0 0;door 0 0 0 0 0 0;");
        due("though he has not so much", y.uses(0, 0), 3);
        due("though it is full", y.uses(1, 0), 6);
        y = town("plain 0 9;door 0 0;");
        y.visit(0, 0);
        due("a wet one of three", y.uses(0, 0), 2);
        y.scrape(0);
        due("of two", y.uses(0, 0), 1);
    }

    private static void p11visit() {
        DoorPaints x = town(THREE);
        bad("visit's VISITOR", v -> x.visit(v, 0), -1, 3, 4, 256, 65536, LOWEST, HIGHEST);
        bad("visit's DOOR", d -> x.visit(0, d), -1, 3, 4, 256, 65536, LOWEST, HIGHEST);
        due("nothing was taken", x.rule(5), 18);
        due("the last VISITOR at the last DOOR, bare", x.visit(2, 2), NONE);
        due("the first at the first", x.visit(0, 0), 1);
        due("PAINT", x.visitor(0, 2), 8);
        DoorPaints y = town("plain 1 99;door;");
        for (int i = 1; i <= 6; i++) {
            due("LAYER " + i, y.visit(0, 0), 1);
            due("LAYERS", y.door(0, 0), i);
            y.sky(0);
        }
        due("1 1 1 2 2 2", y.visitor(0, 2), 90);
        due("a seventh", y.visit(0, 0), FULL);
        due("nothing is taken", y.visitor(0, 2), 90);
        y.scrape(0);
        due("room again", y.visit(0, 0), 1);
        due("on the wet sixth", y.visit(0, 0), 2);
        due("2 and 3", y.visitor(0, 2), 85);
        y.alter(0, 2, 2);
        due("one less", y.visit(0, 0), STATE);
        due("no mark by that", y.visitor(0, 3), 2);
        y.alter(0, 2, 3);
        due("just as much", y.visit(0, 0), 3);
        due("none is left", y.visitor(0, 2), 0);
    }

    private static void p12sky() {
        DoorPaints x = town(THREE);
        x.visit(0, 0);
        bad("sky", x::sky, -1, 3, 90, 91, 92, 256, 65536, LOWEST, HIGHEST);
        due("nothing has changed: LAYERS", x.count(0), 4);
        due("nothing has changed: wet", x.rule(3), 1);
        due("an HOUR", x.sky(0), 4);
        due("RAIN", x.sky(1), 2);
        due("SUN", x.sky(2), 2);
        x = town("door 1 1 1 1 1 1;door 1 1 1 1 1 1;door 1 1 1 1 1 1;door 1 1 1 1 1 1;");
        due("the most LAYERS", x.sky(0), 24);
        due("RAIN on all", x.sky(1), 16);
        due("again", x.sky(1), 8);
        due("two become one", x.sky(1), 4);
        due("one stays one", x.sky(1), 4);
    }

    private static void p13scrape() {
        DoorPaints x = town(THREE);
        bad("scrape", x::scrape, -1, 3, 4, 256, LOWEST, HIGHEST);
        due("the last one is bare", x.scrape(2), STATE);
        due("the first", x.scrape(0), NONE);
        due("it is bare already", x.scrape(0), STATE);
        due("two LAYERS", x.scrape(1), 5);
        due("one LAYER", x.scrape(1), NONE);
        due("none", x.scrape(1), STATE);
        DoorPaints y = town("plain 2 9;door 0 0 0 0 0;door 3;");
        y.visit(0, 0);
        y.visit(0, 1);
        due("the sixth", y.scrape(0), 0);
        due("it is dry then, the other is wet", y.rule(3), 2);
        due("bare ones are dry", y.scrape(1), 3);
        due("dry", y.rule(3), 0);
    }

    private static void p14alter() {
        DoorPaints x = town(THREE);
        bounds("alter's VISITOR", 0, 2, i -> x.alter(i, 0, 0));
        bounds("alter's what", 0, 3, what -> x.alter(0, what, 0));
        int[] most = {3, 5, 99, 0};
        for (int what = 0; what <= 3; what++) {
            DoorPaints y = town("plain 1 9;miser 2 0;door;");
            y.visit(0, 0);
            y.visit(1, 0);
            int[] was = {2, 2, 0, 2};
            int w = what;
            bad("v of " + what, v -> y.alter(1, w, v), -1, most[what] + 1, most[what] + 256, -256, 65536, LOWEST, HIGHEST);
            due("it is as it was", y.visitor(1, what), was[what]);
            due("the most", y.alter(1, what, most[what]), was[what]);
            due("it is that", y.visitor(1, what), most[what]);
            due("the least", y.alter(1, what, 0), most[what]);
            due("it is 0", y.visitor(1, what), 0);
            due("the same again", y.alter(1, what, 0), 0);
            due("the other is as he was", y.visitor(0, what), new int[] {0, 1, 8, 0}[what]);
        }
    }

    private static void p15ought() {
        DoorPaints x = town(THREE);
        for (boolean not : new boolean[] {true, false}) {
            bad("ought's DOOR", d -> x.ought(d, 0, not), -1, 3, 4, 256, LOWEST, HIGHEST);
            bad("ought's COLOUR", c -> x.ought(0, c, not), -1, 6, 7, 32, 33, -31, -32, 256, LOWEST, HIGHEST);
        }
        for (int d = 0; d < 3; d++) {
            due("nothing has changed", x.door(d, 2), 0);
        }
        for (int colour = 0; colour <= 5; colour++) {
            due("ought not", x.ought(2, colour, true), 1);
            due("bits", x.door(2, 2), (2 << colour) - 1);
        }
        for (int colour = 0; colour <= 5; colour++) {
            due("may", x.ought(2, colour, false), 0);
            due("bits", x.door(2, 2), 63 & ~((2 << colour) - 1));
        }
        bad("a COLOUR that it may be asked for", c -> x.ought(0, c, false), 6, 32, LOWEST);
    }

    private static void p16plans() {
        DoorPaints x = town(THREE);
        bad("plans", x::plans, -1, -10, 3, 13, 30, 33, 34, 40, 89, 93, 100, LOWEST, HIGHEST);
        int[] acts = {0, 2, 20, 22, 90, 92, 12, 21};
        for (int i = 0; i < 8; i++) {
            due("ACT " + acts[i], x.plans(acts[i]), i + 1);
        }
        due("a ninth", x.plans(91), FULL);
        bad("no ACT", x::plans, -1, 93, 30, 3);
        for (int i = 0; i < 8; i++) {
            due("ACT " + i, x.plan(i), acts[i]);
        }
        x.cut(7);
        due("room for one", x.plans(91), 8);
        due("it is the last", x.plan(7), 91);
        x = town("plain 1 1;");
        due("no DOOR", x.plans(0), BAD);
        due("an HOUR", x.plans(90), 1);
        x = town("door;");
        due("no VISITOR", x.plans(0), BAD);
        due("RAIN", x.plans(91), 1);
    }

    private static void p17cut() {
        DoorPaints x = town("plan 90 91 92;");
        bad("cut", x::cut, -1, 4, 8, 9, 256, LOWEST, HIGHEST);
        due("three still", x.rule(2), 3);
        due("all three", x.cut(3), 3);
        due("the first two", x.cut(2), 3);
        due("3 of two", x.cut(3), BAD);
        due("the first is left", x.plan(0), 90);
        due("none", x.cut(0), 2);
        due("none of none", x.cut(0), 0);
        due("1 of none", x.cut(1), BAD);
        x = town("plan 90 90 90 90 90 90 90 92;");
        due("9 of eight", x.cut(9), BAD);
        due("all eight", x.cut(8), 8);
        due("the last is there", x.plan(7), 92);
    }

    // ---- plans

    private static void p18runs() {
        DoorPaints x = town(FOUR + "plan 0 11 22 33 91 92 90 0;");
        bounds("runs", 0, 4, x::runs);
        due("1 and 2 and 0 and 1 and 1", x.runs(0), 5);
        due("all can", x.runs(2), NONE);
        x.alter(0, 2, 0);
        due("the first can not", x.runs(2), 0);
        x.alter(0, 2, 1);
        due("the last can not", x.runs(2), 7);
        due("it is passed over", x.runs(0), 4);
        x.cut(7);
        due("all can", x.runs(2), NONE);
        x = town("plain 1 99;door 1;plan 0 0 0 0 0 0 0 0;");
        due("eight", x.runs(0), 8);
        due("two LAYERS", x.runs(3), 2);
        due("marked", x.runs(4), 1);
        x = town("plain 1 99;door 1 1 1 1 1 1;not 0 1;plan 0;");
        due("FULL can not be", x.runs(2), 0);
        due("nothing is taken", x.runs(0), 0);
        due("WRONG still", x.runs(1), 1);
        x = town("plain 1 9;plain 1 9;plain 1 9;plain 1 9;door;door;door;door;not 0 4;not 3 1;plan 0 10 20 30 3;");
        due("WRONG, the first and the last", x.runs(1), 9);
        due("all but the first are marked", x.runs(4), 14);
    }

    private static void p19ahead() {
        DoorPaints x = town(THREE + "plan 92 0 2 90 22;");
        bounds("ahead", 0, 2, x::ahead);
        due("the first", x.ahead(0), 1);
        due("the last, bare before", x.ahead(2), 1);
        x.cut(2);
        due("the last is bare", x.ahead(2), NONE);
        x = town("door 0;plan 92;");
        due("bare then", x.ahead(0), NONE);
        x.cut(0);
        due("without ACTS: now", x.ahead(0), 0);
    }

    private static void p20clears() {
        DoorPaints x = town(FOUR + "not 3 4;");
        bounds("clears", 0, 3, x::clears);
        due("all may visit a right one", x.clears(0), 15);
        due("all but the miser", x.clears(3), 11);
        x.ought(3, 1, true);
        due("neither BRUSH 1", x.clears(3), 2);
        x.alter(1, 2, 1);
        due("nobody", x.clears(3), 0);
        x.alter(1, 2, 2);
        due("with just as much", x.clears(3), 2);
        x = town("door 1;");
        due("no VISITORS", x.clears(0), 0);
        x = town("plain 1 9;miser 0 0;door 2 2 2 2 2 2;");
        due("a full one that is right: he who can visit", x.clears(0), 2);
        x.ought(0, 2, true);
        due("a full one that is WRONG", x.clears(0), 0);
    }

    private static void p21best() {
        DoorPaints x = town("plain 0 9;plain 1 9;door 0;door 0;not 0 0;not 1 0;");
        bounds("best's n", 0, 3, n -> x.best(n, 0));
        bad("best's what", what -> x.best(1, what), -1, -10, 2, 3, 4, 5, 6, 7, 8, 9, LOWEST, LOWEST + 10);
        for (int n = 0; n <= 3; n++) {
            int length = n;
            bad("between", what -> x.best(length, what), -1, 2, 9, LOWEST);
            check.holds("the last of " + n, n == 0 || x.best(n, 9 + n) >= 0);
            due("one behind the last of " + n, x.best(n, 10 + n), NONE);
            due("far behind", x.best(n, HIGHEST), NONE);
        }
        bad("no such row, 10 and 0", n -> x.best(n, 10), -1, 4, LOWEST, HIGHEST);
        DoorPaints y = town("plain 0 9;door;door;door;door;not 3 0;");
        due("the first that takes least", y.best(3, 10), 0);
        due("the second", y.best(3, 11), 0);
        due("the third", y.best(3, 12), 0);
        due("PAINT", y.best(3, 1), 3);
        y = town("plain 1 9;miser 0 0;plain 1 9;plain 1 9;door 0;door 0;door 0;door 0;not 0 0;not 1 0;not 2 0;not 3 0;");
        int[] wrong = {4, 3, 2, 1};
        for (int n = 0; n <= 3; n++) {
            due("WRONG behind " + n, y.best(n, 0), wrong[n]);
            due("PAINT behind " + n, y.best(n, 1), n);
        }
        due("0, 1, 2", y.best(3, 12), 2);
        y = town("plain 1 9;");
        due("no DOORS: there are none", y.best(3, 10), NONE);
        due("no DOORS: WRONG", y.best(3, 0), 0);
        y = town("spy 1 9;plain 1 9;plain 1 9;plain 1 9;door 1;door 1;door 1;door;not 3 1;");
        y.alter(0, 2, 0);
        due("those that can not be take nothing", y.best(3, 1), 0);
        due("the first of them", y.best(3, 12), 0);
        y = town("plain 1 0;plain 1 0;plain 1 0;plain 2 1;door;door;door;door 1;not 3 1;");
        due("the last VISIT of all", y.best(1, 10), 33);
        due("it is the only one", y.best(1, 0), 0);
    }

    /** Of several that by which least PAINT is taken, of these the first; no row finds what another has left. */
    private static void p21bestOfSeveral() {
        DoorPaints x = town("priest 1 9;plain 2 9;spy 3 9;door 0;not 0 0;");
        due("the priest takes twice as much", x.best(1, 10), 10);
        due("PAINT", x.best(1, 1), 1);
        due("WRONG", x.best(1, 0), 0);
        due("two: WRONG", x.best(2, 0), 0);
        due("two: PAINT", x.best(2, 1), 2);
        due("two: first", x.best(2, 10), 10);
        due("two: second", x.best(2, 11), 10);
        x.ought(0, 2, true);
        x.ought(0, 4, true);
        due("2 and 2 is 4, too: 2 and 1", x.best(2, 11), 20);
        due("by more PAINT fewer are WRONG", x.best(2, 0), 0);
        due("one is cheap again", x.best(1, 10), 20);
        due("its PAINT", x.best(1, 1), 1);
        due("none", x.best(0, 1), 0);
        // a miser and one without PAINT take nothing: with nothing WRONG they are best
        x = town("plain 1 9;plain 2 0;miser 3 0;door;");
        due("passed over", x.best(1, 10), 10);
        due("nothing is taken", x.best(3, 1), 0);
        // six LAYERS, the top wet 1: 2 by VISITOR 0, 3 by VISITOR 1
        x = town("plain 1 99;plain 2 99;door 0 0 0 0 0;not 0 1;not 0 2;not 0 4;");
        x.visit(0, 0);
        due("each from wet 1", x.best(1, 10), 10);
        due("3 is right", x.best(1, 0), 0);
        due("3 PAINT at six LAYERS", x.best(1, 1), 3);
        due("few, likewise", x.few(10), 10);
        // each on the dry 1: 2 by VISITOR 0, 3 by VISITOR 1, not 1 and 3
        x = town("plain 2 9;plain 3 9;door 1;not 0 1;not 0 2;not 0 4;");
        due("dry again", x.best(1, 10), 10);
        due("3 is right", x.best(1, 0), 0);
        due("few, likewise", x.few(10), 10);
    }

    private static void p22few() {
        String all = "plain 1 9;door 0;door 0;door 0;door 0;";
        DoorPaints x = town(all);
        bad("few", x::few, -1, 1, 2, 9, LOWEST, LOWEST + 10);
        for (int n = 0; n <= 3; n++) {
            due("how many", x.few(0), n);
            for (int i = 0; i < n; i++) {
                due("VISIT " + i, x.few(10 + i), i);
            }
            due("not so many", x.few(10 + n), NONE);
            due("far from so many", x.few(HIGHEST), NONE);
            x.ought(n, 0, true);
        }
        due("four would be wanted", x.few(0), NONE);
        due("and none is told", x.few(10), NONE);
        bad("few, by none", x::few, -1, 1, 9);
        x = town("plain 1 0;plain 1 0;plain 1 0;plain 2 1;door;door;door;door 1;not 3 1;");
        due("by the last VISIT of all", x.few(10), 33);
        x.alter(3, 2, 0);
        due("he has not so much", x.few(0), NONE);
        x = town("priest 1 9;plain 1 9;door 0;not 0 0;");
        due("the row that takes least", x.best(1, 10), 10);
        due("the first row, whatever it takes", x.few(10), 0);
        due("the row that takes least, still", x.best(1, 10), 10);
        // 1 on wet 5 makes 0
        x = town("plain 5 9;plain 1 9;door;not 0 5;not 0 4;not 0 1;");
        x.visit(0, 0);
        due("by 1 on wet 5", x.few(10), 10);
        due("one is enough", x.few(0), 1);
    }

    private static void p23reads() {
        DoorPaints x = town("plain 4 0;spy 5 0;miser 0 0;door 4 0 0 0 0 0;door 0 0 0 0 0 4;door;door 5;");
        bounds("reads", 0, 2, x::reads);
        due("in the lowest, in the highest", x.reads(0), 3);
        due("a spy's", x.reads(1), 3);
        due("a miser's", x.reads(2), 3);
        x.scrape(1);
        due("scraped", x.reads(0), 1);
        x.alter(0, 1, 5);
        due("the last DOOR", x.reads(1), 8);
        x.alter(0, 1, 3);
        due("none", x.reads(0), 0);
        due("no DOORS", town("plain 1 1;").reads(0), 0);
    }

    // ---- what was

    private static void p24see() {
        DoorPaints x = town(THREE);
        bad("see's DOOR", d -> x.see(d, 0, 0), -1, 3, 4, 256, LOWEST, HIGHEST);
        bad("see's LAYER", i -> x.see(0, i, 0), -1, 6, 10, 256, LOWEST, HIGHEST);
        bad("see's COLOUR", c -> x.see(0, 0, c), -1, -2, -3, -5, 6, 256, LOWEST, HIGHEST);
        due("nothing is SEEN", x.count(1), 0);
        due("the least", x.see(0, 0, 0), 1);
        due("the most", x.see(2, 5, 5), 2);
        due("none there", x.see(2, 5, NONE), 3);
        due("the same again", x.see(2, 5, NONE), 4);
        due("a fifth", x.see(1, 0, 5), 5);
        due("a sixth", x.see(1, 1, 5), 6);
        due("a seventh", x.see(1, 1, 5), FULL);
        bad("a seventh that is not as told", c -> x.see(1, 1, c), 6, -1, -5);
        due("six", x.count(1), 6);
    }

    private static void p25forget() {
        DoorPaints x = town(THREE);
        bad("forget of none", x::forget, -1, 1, 6, LOWEST, HIGHEST);
        for (int i = 0; i < 6; i++) {
            x.see(1, i, i < 3 ? i < 2 ? 5 : NONE : 0);
        }
        bad("forget", x::forget, -1, 7, 256, LOWEST, HIGHEST);
        due("six still", x.count(1), 6);
        due("all six", x.forget(6), 6);
        due("not as SEEN", x.orders(0), 0);
        due("the first four", x.forget(4), 6);
        due("not as SEEN", x.orders(0), 0);
        due("5 of four", x.forget(5), BAD);
        due("the first three", x.forget(3), 4);
        due("as SEEN", x.orders(0), 1);
        due("none", x.forget(0), 3);
        due("none of none", x.forget(0), 0);
    }

    private static void p26pots() {
        DoorPaints x = town("plain 0 9;plain 1 9;plain 2 9;plain 5 9;door;plan 30;");
        bounds("pots", 0, 3, x::pots);
        due("nothing is SEEN", x.pots(3), 15);
        int[] bits = {1, 2, 4, 0, 0, 8};
        for (int colour = 0; colour <= 5; colour++) {
            x.see(0, 0, colour);
            due("with " + colour, x.pots(3), bits[colour]);
            due("one who did not go", x.pots(0), colour == 5 ? 15 : 0);
            x.forget(0);
        }
        x.cut(0);
        x.see(0, 0, NONE);
        due("without ACTS", x.pots(0), 15);
        x = town("spy 4 9;spy 1 9;door;door;plan 0 11;");
        x.see(0, 0, 4);
        x.see(1, 0, 4);
        due("both have one BRUSH", x.pots(1), 3);
        due("both have one BRUSH", x.pots(0), 3);
        x = town("plain 1 9;plain 2 9;door;door;plan 10 11;");
        x.see(0, 0, 1);
        x.see(1, 0, 2);
        due("all along THE PLAN, not at one DOOR", x.pots(1), 0);
        bad("pots of two", x::pots, -1, 2, 3, 4, LOWEST, HIGHEST);
        ownPotAgain();
    }

    /** Behind pots() all go with their own BRUSH again. */
    private static void ownPotAgain() {
        DoorPaints x = town("plain 1 9;plain 2 9;door;not 0 2;plan 0;");
        x.see(0, 0, 1);
        due("his own alone", x.pots(0), 1);
        due("ahead", x.ahead(0), 1);
        x.pots(0);
        due("orders", x.orders(0), 1);
        x.pots(0);
        due("the other's", x.pots(1), 3);
        x.pots(0);
        due("rained", x.rained(), 3);
        x.pots(0);
        due("clears", x.clears(0), 1);
        x.pots(0);
        due("luck", x.luck(10, 0, 0), 0);
        x.pots(0);
        due("drift", x.drift(0, 1, 1), 0);
        x.pots(0);
        x.sheet(0, 0, 2);
        x.read(0, 0, 0, 1);
        due("read", x.door(0, 1), 1);
    }

    private static void p27rained() {
        DoorPaints x = town("door 1 1;plan 90 90 90 90 90 90 90 90;");
        due("nothing is SEEN: bits 0 to 8", x.rained(), 511);
        x.see(0, 0, 2);
        due("behind any", x.rained(), 511);
        x.see(0, 1, 1);
        due("behind none", x.rained(), 0);
        x.forget(1);
        x.cut(0);
        due("without ACTS", x.rained(), 1);
        x = town("plain 3 9;door 1 1 1;plan 90 90 90 90 90 90 90 0;");
        x.see(0, 1, 5);
        due("behind all alone: 1, and 1, 1, 3 in one", x.rained(), 256);
        x = town("plain 3 9;door 1 1;plan 90 90 90 90 90 90 90 0;");
        x.see(0, 0, 2);
        x.see(0, 1, 3);
        due("ahead of the seventh HOUR", x.rained(), 127);
        x.forget(0);
        x.see(0, 0, 5);
        x.see(0, 1, NONE);
        due("just ahead of the VISIT: on the wet one; behind it: of three", x.rained(), 384);
    }

    private static void p28orders() {
        DoorPaints x = town("plain 1 9;door;plan;");
        bounds("orders", 0, 1, x::orders);
        int[] orders = {1, 1, 2, 6, 24, 120};
        for (int n = 0; n <= 5; n++) {
            due("orders of " + n, x.orders(0), orders[n]);
            due("any may be the last", x.orders(1), (1 << n) - 1);
            x.plans(n % 2 == 0 ? 0 : 90);
        }
        due("six ACTS", x.orders(0), STATE);
        due("six ACTS: the last", x.orders(1), STATE);
        bad("six ACTS", x::orders, -1, 2, LOWEST, HIGHEST);
        x.plans(90);
        x.plans(90);
        due("eight ACTS", x.orders(0), STATE);
        x.cut(5);
        due("five ACTS", x.orders(0), 120);
        x.see(0, 5, 1);
        due("by none", x.orders(0), 0);
        due("none is the last", x.orders(1), 0);
        // 2 alone below means that 20 comes first, 90 behind it and ahead of one of the others, 0 and 0 in any order
        x = town("plain 1 9;plain 2 9;door;plan 0 0 90 10;");
        x.see(0, 0, 2);
        x.see(0, 1, 2);
        due("10 90 0 0, twice; 0 0 90 10, twice", x.orders(0), 4);
        due("the last: either 0, or 10", x.orders(1), 11);
    }

    // ---- odds

    private static void p29luck() {
        DoorPaints x = town("plain 1 9;door 1;door 2;door 3;not 2 3;plan 0;");
        for (int what = 0; what <= 1; what++) {
            int w = what;
            bounds("luck's odds", 0, 10, v -> x.luck(v, 0, w));
            bounds("luck's DOOR", 0, 2, d -> x.luck(5, d, w));
        }
        bounds("luck's what", 0, 1, what -> x.luck(5, 0, what));
        due("one that nobody visits", x.luck(5, 2, 0), 1);
        x.cut(0);
        due("without ACTS, WRONG", x.luck(5, 2, 0), 1);
        due("by 1", x.luck(5, 2, 1), 1);
        due("without ACTS, right", x.luck(5, 0, 0), 0);
        due("by 1", x.luck(5, 0, 1), 1);
        // all other ACTS come to be: the HOUR, the RAIN, the SUN
        DoorPaints y = town("plain 0 9;door 3 3;door 0;not 0 0;not 1 0;plan 91 0 92;");
        due("SUN takes all that is red", y.luck(5, 0, 0), 0);
        due("SUN takes it of the other, too", y.luck(0, 1, 0), 0);
        y.cut(2);
        due("RAIN alone", y.luck(0, 0, 0), 1);
        due("by itself: RAIN and VISIT", y.luck(7, 0, 1), 1);
    }

    private static void p30mean() {
        DoorPaints x = town("plain 1 9;door 1;plan 0;");
        for (int what = 0; what <= 1; what++) {
            int w = what;
            bounds("mean's odds", 0, 10, v -> x.mean(v, w));
        }
        bounds("mean's what", 0, 1, what -> x.mean(5, what));
        due("never", x.mean(0, 0), 0);
        due("never, by", x.mean(0, 1), 1);
        due("always", x.mean(10, 0), 1);
        due("always, by", x.mean(10, 1), 1);
        DoorPaints y = town("plain 1 1;door;plan 0 0;");
        // one PAINT: it is taken if either comes: 1 - 0.9^2
        due("by one of ten", y.mean(1, 0), 19);
        due("by", y.mean(1, 1), 100);
        y = town("plain 1 9;plain 1 9;door;plan 90 91 92;");
        due("no VISITS", y.mean(5, 0), 0);
        due("no VISITS, by", y.mean(5, 1), 1);
        y = town("plain 1 9;door 1 1 1 1 1 1;plan 0;");
        due("a VISIT that can not be", y.mean(10, 0), 0);
    }

    // ---- by a seed

    private static void p31drift() {
        DoorPaints x = town("plain 1 9;plain 2 9;plain 3 9;door;door;door;not 0 1;not 2 3;");
        for (int what = 0; what <= 1; what++) {
            int w = what;
            bounds("drift's n", 1, 60, n -> x.drift(7, n, w));
        }
        bounds("drift's what", 0, 1, what -> x.drift(7, 1, what));
        // 0 and the lowest seed differ by bit 31 alone, which is not got: 0; VISITOR 0 at DOOR 0
        due("seed 0", x.drift(0, 1, 1), 1);
        due("the lowest seed", x.drift(LOWEST, 1, 1), 1);
        // -1 and the highest: 15929, that is 1 modulo 8; 1991 modulo 3 is 2, 497 modulo 3 is 2
        due("seed -1", x.drift(-1, 1, 1), 4);
        due("the highest seed", x.drift(HIGHEST, 1, 1), 4);
        // 2 on wet 2 at DOOR 2: 3 and 3 is 0
        due("twice", x.drift(-1, 2, 1), 0);
        due("twice, LAYERS", x.drift(HIGHEST, 2, 0), 1);
        byEachRest();
        sixtySteps();
        due("no VISITORS", town("door;").drift(0, 1, 0), STATE);
        due("no DOORS", town("plain 1 1;").drift(0, 1, 1), STATE);
    }

    /** got modulo 8: below 5 a VISIT, 5 an HOUR, 6 RAIN, 7 SUN. */
    private static void byEachRest() {
        int[] seeds = {0, 4, 8, 3, 2, 11, 1, 5};
        int[] visitors = {0, 2, 1, 1, 2};
        int[] doors = {0, 0, 1, 2, 0};
        for (int rest = 0; rest < 5; rest++) {
            DoorPaints x = town("plain 1 9;plain 2 9;plain 3 9;door;door;door;door;not " + doors[rest] + " " + (visitors[rest] + 1) + ";");
            due("a VISIT by " + rest, x.drift(seeds[rest], 1, 0), 1);
            due("his, there", x.drift(seeds[rest], 1, 1), 1 << doors[rest]);
        }
        // an HOUR leaves all, RAIN makes three one, SUN takes two
        int[] layers = {5, 3, 3};
        for (int rest = 5; rest < 8; rest++) {
            DoorPaints x = town("plain 1 9;plain 2 9;plain 3 9;door 1 1 1 0 0;door;door;door;not 0 1;");
            due("the sky by " + rest, x.drift(seeds[rest], 1, 0), layers[rest - 5]);
            due("WRONG by " + rest, x.drift(seeds[rest], 1, 1), rest == 5 ? 0 : 1);
        }
        // 22117 behind 9988 is an HOUR: VISITOR 0 (1), 1 (2), 0 (1) make one LAYER of 4, the next a second one
        DoorPaints x = town("plain 1 9;plain 2 9;door;");
        due("one LAYER", x.drift(0, 4, 0), 1);
        due("behind the HOUR two", x.drift(0, 5, 0), 2);
    }

    /** By seed 204321 the 60th is the first by VISITOR 3 of four. */
    private static void sixtySteps() {
        DoorPaints x = town("miser 0 0;miser 0 0;miser 0 0;plain 1 9;door;door;door;door;not 1 1;");
        due("59 times", x.drift(204321, 59, 0), 0);
        due("60 times", x.drift(204321, 60, 0), 1);
        due("it is at DOOR 1", x.drift(204321, 60, 1), 2);
        due("by itself: nothing is there", x.count(0), 0);
    }

    // ---- images, sheets

    private static void p32keep() {
        DoorPaints x = town(THREE);
        bad("keep", x::keep, -1, 2, 3, 256, LOWEST, HIGHEST);
        due("none", x.count(2), 0);
        due("the last", x.keep(1), 0);
        due("one", x.count(2), 1);
        due("the first is none", x.back(0), STATE);
        due("the first", x.keep(0), 0);
        due("two", x.count(2), 2);
        due("the first again", x.keep(0), 1);
        due("the last again", x.keep(1), 1);
        due("two", x.count(2), 2);
    }

    private static void p33back() {
        DoorPaints x = town(THREE);
        bad("back", x::back, -1, 2, 3, 256, LOWEST, HIGHEST);
        due("none 0", x.back(0), STATE);
        due("none 1", x.back(1), STATE);
        x.keep(0);
        due("three LAYERS", x.back(0), 3);
        due("none 1 still", x.back(1), STATE);
        x.sky(1);
        x.keep(1);
        bad("back with both", x::back, -1, 2, LOWEST, HIGHEST);
        due("two LAYERS still", x.count(0), 2);
        due("IMAGE 0", x.back(0), 3);
        due("dry", x.rule(3), 0);
        due("IMAGE 1", x.back(1), 2);
        due("wet", x.rule(3), 3);
        due("IMAGE 1 again", x.back(1), 2);
        fullImage();
    }

    /** All VISITORS, DOORS, ACTS and SEEN that there may be come back. */
    private static void fullImage() {
        DoorPaints x = town("plain 0 9;spy 1 9;miser 2 9;priest 3 9;door 1 2 3 4 5;door;door;door 0 5;not 3 5;plan 0 1 2 3 90 91 92 33;");
        x.visit(0, 0);
        x.visit(2, 0);
        for (int i = 0; i < 6; i++) {
            x.see(3, 0, i == 5 ? 1 : 0);
        }
        x.keep(1);
        x.scrape(0);
        x.scrape(3);
        x.ought(3, 5, false);
        x.alter(3, 0, 0);
        x.alter(2, 3, 0);
        x.cut(0);
        x.plans(92);
        x.forget(0);
        due("LAYERS in all", x.back(1), 8);
        check.layers(x, 0, 1, 2, 3, 4, 5, 0);
        check.layers(x, 3, 0, 5);
        due("wet", x.rule(3), 1);
        due("WRONG", x.rule(4), 8);
        due("the last KIND", x.visitor(3, 0), 1);
        due("the SLEEVE", x.visitor(2, 3), 1);
        due("eight ACTS", x.rule(2), 8);
        due("the first", x.plan(0), 0);
        due("the last", x.plan(7), 33);
        due("six SEEN", x.count(1), 6);
        due("the sixth is not so", x.rained(), 0);
        x.forget(5);
        x.cut(0);
        x.see(3, 1, 5);
        due("the fifth is so", x.orders(0), 1);
    }

    private static void p34sheet() {
        DoorPaints x = new DoorPaints();
        bounds("sheet's k", 0, 3, k -> x.sheet(k, 0, 1));
        bounds("sheet's lane", 0, 2, lane -> x.sheet(0, lane, 1));
        x.sheet(0, 0, 5);
        bad("CELLS", n -> x.sheet(0, 0, n), 41, 42, 256, 65536, HIGHEST, HIGHEST - 1);
        for (int n : new int[] {-1, -2, -40, -256, -65536, LOWEST, LOWEST + 1}) {
            due("SIZE " + n, x.sheet(0, 0, n), -14);
        }
        due("five still", x.count(4), 5);
        due("40", x.sheet(0, 0, 40), 1);
        due("40", x.count(4), 40);
        due("0", x.sheet(0, 1, 0), 1);
        due("0", x.count(4), 0);
        DoorPaints y = town("miser 1 1;miser 1 1;door;door;");
        y.sheet(2, 0, 40);
        for (int i = 0; i < 40; i++) {
            y.lay(2, i, 2);
        }
        y.sheet(2, 0, 2);
        due("CELLS are 0", y.read(2, 0, 0, 1), 1);
        due("and no more", y.lay(2, 2, 0), -12);
        y.sheet(2, 2, 40);
        due("all forty", y.read(2, 2, 0, 20), 20);
        due("are 0", y.torn(), 0);
    }

    private static void p35lay() {
        DoorPaints x = new DoorPaints();
        x.sheet(0, 0, 40);
        x.sheet(1, 1, 1);
        x.sheet(2, 2, 0);
        x.sheet(3, 2, 1);
        bounds("lay's k", 0, 3, k -> x.lay(k, 0, 0));
        for (int i : new int[] {-1, 40, 41, LOWEST, HIGHEST}) {
            due("CELL " + i + " of forty", x.lay(0, i, 0), -12);
        }
        due("the first", x.lay(0, 0, 0), 1);
        due("the last", x.lay(0, 39, 0), 1);
        for (int i : new int[] {-1, 1, LOWEST, HIGHEST}) {
            due("CELL " + i + " of one", x.lay(1, i, 0), -12);
        }
        due("the only one", x.lay(1, 0, 0), 1);
        for (int i : new int[] {-1, 0, 1, LOWEST, HIGHEST}) {
            due("CELL " + i + " of none", x.lay(2, i, 0), -12);
        }
        // a value becomes the VISITOR of that number, or there is none: BAD, so -20
        int[] values = {0, 3, 4, -1, 127, 128, 255, 256, 259, 260, -128, -129, -253, -256, -257, 32767, 32768, 65535, 65536, 65539, 65540,
            -32768, -32769, -65533, -65536, LOWEST, LOWEST + 3, LOWEST + 4, HIGHEST};
        int[] asByte = {0, 3, BAD, BAD, BAD, BAD, BAD, 0, 3, BAD, BAD, BAD, 3, 0, BAD, BAD, 0, BAD, 0, 3, BAD,
            0, BAD, 3, 0, 0, 3, BAD, BAD};
        int[] asShort = {0, 3, BAD, BAD, BAD, BAD, BAD, BAD, BAD, BAD, BAD, BAD, BAD, BAD, BAD, BAD, BAD, BAD, 0, 3, BAD,
            BAD, BAD, 3, 0, 0, 3, BAD, BAD};
        int[] asInt = {0, 3, BAD, BAD, BAD, BAD, BAD, BAD, BAD, BAD, BAD, BAD, BAD, BAD, BAD, BAD, BAD, BAD, BAD, BAD, BAD,
            BAD, BAD, BAD, BAD, BAD, BAD, BAD, BAD};
        for (int i = 0; i < values.length; i++) {
            cellMeans(0, values[i], asByte[i]);
            cellMeans(1, values[i], asShort[i]);
            cellMeans(2, values[i], asInt[i]);
        }
    }

    /** Laid in a lane, a value is that VISITOR, and that DOOR, or none. */
    private static void cellMeans(int lane, int value, int number) {
        DoorPaints x = town("plain 1 9;plain 2 9;plain 3 9;plain 4 9;door;door;door;door;");
        x.sheet(0, lane, 4);
        due("laid", x.lay(0, 0, value), 1);
        due("laid", x.lay(0, 3, value), 1);
        int visited = number == BAD ? -20 : 1;
        due(value + " as VISITOR in lane " + lane, x.read(0, lane, 0, 1), visited);
        due("DOOR 0", x.door(0, 1), number == BAD ? NONE : number + 1);
        x.scrape(0);
        due(value + " as DOOR in lane " + lane, x.read(0, lane, 2, 1), visited);
        due("that one is wet", x.rule(3), number == BAD ? 0 : 1 << number);
    }

    private static void p36readNumbers() {
        DoorPaints x = town("miser 1 0;door;");
        for (int k = 0; k < 4; k++) {
            x.sheet(k, 0, 40);
        }
        bounds("read's k", 0, 3, k -> x.read(k, 0, 0, 1));
        bounds("read's lane", 0, 2, lane -> x.read(0, lane, 0, 1));
        bounds("read's n", 0, 20, n -> x.read(0, 0, 0, n));
        due("none", x.read(0, 0, 0, 0), 0);
        due("twenty", x.read(0, 0, 0, 20), 20);
        due("whole", x.torn(), 0);
        due("from CELL 38", x.read(0, 0, 38, 1), 1);
        due("whole", x.torn(), 0);
        for (int f : new int[] {39, 40, 41, -1, -2, LOWEST, LOWEST + 1, HIGHEST, HIGHEST - 1}) {
            x.read(0, 0, 0, 1);
            due("from CELL " + f, x.read(0, 0, f, 1), 0);
            due("INDEX", x.torn(), 2);
            due("from CELL " + f + ", twenty", x.read(0, 0, f, 20), 0);
            due("INDEX", x.torn(), 2);
            due("from CELL " + f + ", none", x.read(0, 0, f, 0), 0);
            due("none is looked at", x.torn(), 0);
        }
        due("from CELL 2, twenty", x.read(0, 0, 2, 20), 19);
        due("INDEX", x.torn(), 2);
        due("from CELL 1, twenty", x.read(0, 0, 1, 20), 19);
        due("INDEX", x.torn(), 2);
        due("from CELL 1, nineteen", x.read(0, 0, 1, 19), 19);
        due("whole", x.torn(), 0);
    }

    /** What the machine refuses: those that were whole ahead did. */
    private static void p36readPairs() {
        for (int cells = 0; cells <= 5; cells++) {
            DoorPaints x = town("plain 1 9;door;");
            x.sheet(3, 1, cells);
            due("of " + cells + " CELLS", x.read(3, 1, 0, 3), cells / 2);
            due("INDEX", x.torn(), 2);
            due("so many did", x.visitor(0, 2), 9 - cells / 2);
            due("half of a pair does nothing", x.read(3, 1, cells - 1, 1), 0);
            due("so many did", x.visitor(0, 2), 9 - cells / 2);
        }
        DoorPaints x = town("plain 1 9;door;");
        due("nothing", x.read(0, 0, 0, 20), 0);
        x.sheet(0, 0, 2);
        due("another lane", x.read(0, 1, 0, 20), 0);
        due("none did", x.visitor(0, 2), 9);
    }

    /** -20 less i: the i-th, whole, is refused by visit() (BAD, STATE, FULL): then none did; the first met. */
    private static void p36readRefused() {
        // each pair is the miser at bare DOOR 1 (NONE is an answer), but the i-th
        int[][] refused = {{4, 1}, {-1, 1}, {0, 2}, {0, -1}, {1, 0}, {2, 0}};
        for (int[] pair : refused) {
            for (int i : new int[] {0, 1, 19}) {
                DoorPaints x = town("miser 1 0;plain 1 0;plain 1 9;plain 2 9;door 0 0 0 0 0 0;door;");
                x.sheet(0, 0, 40);
                for (int j = 0; j < 20; j++) {
                    x.lay(0, 2 * j + 1, 1);
                }
                due("all twenty", x.read(0, 0, 0, 20), 20);
                x.lay(0, 0, 3);
                x.lay(0, 2 * i, pair[0]);
                x.lay(0, 2 * i + 1, pair[1]);
                due("the one at " + i + " is refused", x.read(0, 0, 0, 20), -20 - i);
                due("none did", x.rule(5), 18);
                due("DOOR 1 is bare", x.door(1, 1), NONE);
                due("those ahead of it", x.read(0, 0, 0, i), i);
                due("did then", x.rule(5), i == 0 ? 18 : 17);
            }
        }
        // one behind another: the second VISIT finds what the first has left
        DoorPaints x = town("plain 1 1;door;");
        x.sheet(0, 0, 3);
        due("refused ahead of INDEX", x.read(0, 0, 0, 1), 1);
        x.alter(0, 2, 1);
        x.sheet(0, 0, 5);
        due("the second has no PAINT, met ahead of INDEX", x.read(0, 0, 0, 3), -21);
        due("none did", x.visitor(0, 2), 1);
        x.sheet(0, 0, 3);
        due("INDEX met ahead of no PAINT", x.read(0, 0, 0, 2), 1);
        due("INDEX", x.torn(), 2);
    }

    /** The FAULT of the latest read() that came to an end; 0. */
    private static void p37torn() {
        DoorPaints x = town("miser 1 0;door;");
        due("no read() yet", x.torn(), 0);
        due("BAD", x.read(4, 0, 0, 1), BAD);
        due("none came to an end", x.torn(), 0);
        x.read(0, 0, 0, 1);
        due("NULL", x.torn(), 1);
        due("NULL once more", x.torn(), 1);
        int[][] bads = {{-1, 0, 1}, {4, 0, 1}, {0, -1, 1}, {0, 3, 1}, {0, 0, -1}, {0, 0, 21}};
        for (int[] b : bads) {
            due("BAD", x.read(b[0], b[1], 0, b[2]), BAD);
            due("of the one before", x.torn(), 1);
        }
        due("no other call changes it", x.lay(0, 0, 0), -11);
        x.sheet(0, 0, -1);
        x.sheet(0, 0, 2);
        x.lay(0, 5, 0);
        due("it is NULL still", x.torn(), 1);
        due("whole", x.read(0, 0, 0, 1), 1);
        due("0", x.torn(), 0);
        x.read(0, 0, 0, 2);
        due("INDEX", x.torn(), 2);
        x.lay(0, 0, 1);
        due("refused", x.read(0, 0, 0, 1), -20);
        due("INDEX still", x.torn(), 2);
        check.say(x, "door;");
        due("a text does not change it", x.torn(), 2);
    }

    private static void p38count() {
        DoorPaints x = town(THREE);
        bounds("count", 0, 4, x::count);
        int[] none = {3, 0, 0, 0, NONE};
        for (int what = 0; what <= 4; what++) {
            due("count " + what, x.count(what), none[what]);
        }
        for (int i = 0; i < 6; i++) {
            x.see(0, 0, 0);
        }
        x.keep(0);
        x.keep(1);
        x.sheet(0, 2, 40);
        for (int i = 0; i < 160; i++) {
            x.feed(0);
        }
        int[] most = {3, 6, 2, 160, 40};
        for (int what = 0; what <= 4; what++) {
            due("count " + what, x.count(what), most[what]);
        }
        x = town("door 1 1 1 1 1 1;door 1 1 1 1 1 1;door 1 1 1 1 1 1;door 1 1 1 1 1 1;");
        due("the most LAYERS", x.count(0), 24);
        x.sheet(1, 0, 3);
        x.sheet(3, 0, 3);
        due("SHEET 0 is nothing", x.count(4), NONE);
        x.sheet(0, 0, 0);
        due("SHEET 0 has no CELLS", x.count(4), 0);
    }
}
