import java.util.function.Consumer;
import java.util.function.ToLongFunction;

/**
 * What is refused changes nothing, and no question does: of twins one is called, then both are asked for all that
 * can be told of them.
 */
public final class RefusedTest {
    private static final int BAD = -1, STATE = -2, FULL = -3, NONE = -4;
    private static final int LOWEST = Integer.MIN_VALUE, HIGHEST = Integer.MAX_VALUE;
    private static final String TEXT = "plain 1 29;miser 2 0;spy 3 1;door 1 0;door 5 4 3 2 1 0;door;not 0 3;not 1 0;plan 0 21 90 1 2;";

    private static final Check check = new Check();

    public static void main(String[] args) {
        witnessSees();
        theText(); whatIsChanged(); plans(); whatWas(); odds(); images(); sheets(); reads(); questions();
        full(); faultyTexts(); fullTape();
        check.finish();
    }

    /** A town in which there is something of everything, and room for more of it. */
    private static DoorPaints rich() {
        DoorPaints x = check.town(TEXT);
        x.see(0, 0, 1);
        x.keep(0);
        x.visit(0, 2);
        x.visit(1, 2);
        x.see(2, 0, 2);
        x.see(2, 1, NONE);
        x.sheet(0, 0, 5);
        x.lay(0, 3, 2);
        x.sheet(1, 1, 2);
        x.lay(1, 1, 2);
        x.sheet(2, 2, 6);
        x.lay(2, 4, 9);
        x.read(0, 0, 4, 1);
        check.due("INDEX", x.torn(), 2);
        check.due("a FAULT", check.say(x, "A"), -10);
        for (char c : "door 4".toCharArray()) {
            x.feed(c);
        }
        return x;
    }

    /** All that can be told of an object; the asking changes it. */
    private static String witness(DoorPaints x) {
        StringBuilder told = new StringBuilder();
        tellTown(x, told);
        tell(told, x.fault(), x.torn(), x.count(1), x.count(2), x.count(3), x.count(4));
        tellSeen(x, told);
        tellSheets(x, told);
        tell(told, x.back(1), x.back(0));
        tellTown(x, told);
        tellSeen(x, told);
        tell(told, x.feed(';'), x.text());
        tellTown(x, told);
        return told.toString();
    }

    private static void tell(StringBuilder told, long... answers) {
        for (long answer : answers) {
            told.append(answer).append(' ');
        }
        told.append("| ");
    }

    private static void tellTown(DoorPaints x, StringBuilder told) {
        for (int what = 0; what <= 5; what++) {
            tell(told, x.rule(what));
        }
        for (int v = 0; v < 3; v++) {
            tell(told, x.visitor(v, 0), x.visitor(v, 1), x.visitor(v, 2), x.visitor(v, 3));
        }
        for (int d = 0; d < 3; d++) {
            tell(told, x.door(d, 0), x.door(d, 2), x.door(d, 3));
            for (int i = 0; i < x.door(d, 0); i++) {
                tell(told, x.door(d, 10 + i));
            }
        }
        for (int i = 0; i < 8; i++) {
            tell(told, x.plan(i));
        }
    }

    /** What is SEEN shows by what agrees with it, one less at a time. */
    private static void tellSeen(DoorPaints x, StringBuilder told) {
        for (int n = x.count(1); n >= 0; n--) {
            tell(told, x.rained(), x.pots(0), x.forget(n > 0 ? n - 1 : 0));
        }
    }

    /** By CELLS as VISITORS and DOORS, and by how many there are. */
    private static void tellSheets(DoorPaints x, StringBuilder told) {
        for (int k = 0; k < 4; k++) {
            for (int lane = 0; lane < 3; lane++) {
                tell(told, x.read(k, lane, 0, 2), x.torn(), x.rule(5), x.rule(3));
            }
            tell(told, x.read(k, k, 4, 1));
            for (int i : new int[] {1, 2, 4, 5, 6}) {
                tell(told, x.lay(k, i, 0));
            }
        }
    }

    /** The call answers as due and leaves all as it was. */
    private static void same(String call, ToLongFunction<DoorPaints> called, long want, Consumer<DoorPaints> ahead) {
        DoorPaints one = rich();
        DoorPaints other = rich();
        ahead.accept(one);
        ahead.accept(other);
        check.due(call, called.applyAsLong(one), want);
        check.due(call + " once more", called.applyAsLong(one), want);
        String wanted = witness(other);
        String got = witness(one);
        check.holds(call + " changes nothing: " + got + " is " + wanted, got.equals(wanted));
    }

    private static void refused(String call, ToLongFunction<DoorPaints> called, long want) {
        same(call, called, want, x -> { });
    }

    /** The witness itself: each thing that a call may change is told by it. */
    private static void witnessSees() {
        String wanted = witness(rich());
        check.holds("twins are alike", wanted.equals(witness(rich())));
        sees(wanted, "feed", x -> x.feed(' '));
        sees(wanted, "end", x -> x.end(5));
        sees(wanted, "text", x -> x.feed(';') + x.text());
        sees(wanted, "visit", x -> x.visit(0, 0));
        sees(wanted, "HOUR", x -> x.sky(0));
        sees(wanted, "RAIN", x -> x.sky(1));
        sees(wanted, "SUN", x -> x.sky(2));
        sees(wanted, "scrape", x -> x.scrape(1));
        for (int what = 0; what < 4; what++) {
            int w = what;
            sees(wanted, "alter " + what, x -> x.alter(1, w, w == 3 ? 0 : 1));
        }
        sees(wanted, "ought", x -> x.ought(2, 5, true));
        sees(wanted, "may", x -> x.ought(0, 3, false));
        sees(wanted, "plans", x -> x.plans(90));
        sees(wanted, "cut", x -> x.cut(4));
        sees(wanted, "see", x -> x.see(0, 5, NONE));
        sees(wanted, "forget", x -> x.forget(2));
        sees(wanted, "keep", x -> x.keep(0));
        sees(wanted, "keep 1", x -> x.keep(1));
        sees(wanted, "back", x -> x.back(0));
        for (int k = 0; k < 4; k++) {
            int s = k;
            sees(wanted, "sheet " + k, x -> x.sheet(s, 2, 5));
        }
        sees(wanted, "lay 0", x -> x.lay(0, 3, 0));
        sees(wanted, "lay 1", x -> x.lay(1, 0, 7));
        sees(wanted, "lay 2", x -> x.lay(2, 4, 0));
        sees(wanted, "read", x -> x.read(0, 0, 0, 0));
    }

    private static void sees(String wanted, String call, ToLongFunction<DoorPaints> called) {
        DoorPaints x = rich();
        check.holds(call + " is taken", called.applyAsLong(x) >= 0);
        check.holds("the witness sees " + call, !witness(x).equals(wanted));
    }

    private static void theText() {
        for (int c : new int[] {-1, 128, 256 + ';', LOWEST, HIGHEST}) {
            refused("feed " + c, x -> x.feed(c), BAD);
        }
        for (int n : new int[] {-1, 7, 160, LOWEST, HIGHEST}) {
            refused("end " + n, x -> x.end(n), BAD);
        }
        for (int what : new int[] {-1, 6, LOWEST, HIGHEST}) {
            refused("rule " + what, x -> x.rule(what), BAD);
        }
        for (int n : new int[] {-1, 3, LOWEST, HIGHEST}) {
            refused("visitor " + n, x -> x.visitor(n, 0), BAD);
            refused("door " + n, x -> x.door(n, 0), BAD);
        }
        refused("visitor's what", x -> x.visitor(0, 5), BAD);
        refused("door's what", x -> x.door(0, 4), BAD);
        refused("door's LAYER", x -> x.door(0, 16), BAD);
        refused("plan 5", x -> x.plan(5), BAD);
        refused("plan -1", x -> x.plan(-1), BAD);
    }

    private static void whatIsChanged() {
        for (int n : new int[] {-1, 3, 4, LOWEST, HIGHEST}) {
            refused("uses by " + n, x -> x.uses(n, 0), BAD);
            refused("uses at " + n, x -> x.uses(0, n), BAD);
            refused("visit by " + n, x -> x.visit(n, 0), BAD);
            refused("visit at " + n, x -> x.visit(0, n), BAD);
            refused("sky " + n, x -> x.sky(n), BAD);
            refused("scrape " + n, x -> x.scrape(n), BAD);
            refused("alter " + n, x -> x.alter(n, 2, 1), BAD);
            refused("alter's what " + n, x -> x.alter(0, n == 3 ? 5 : n, 0), BAD);
            refused("ought at " + n, x -> x.ought(n, 0, true), BAD);
            refused("may at " + n, x -> x.ought(n, 0, false), BAD);
        }
        refused("STATE: a spy with 1 at six LAYERS", x -> x.visit(2, 1), STATE);
        refused("FULL: six dry LAYERS", x -> x.visit(0, 1), FULL);
        same("STATE: on a wet one", x -> x.visit(0, 2), STATE, x -> x.alter(0, 2, 0));
        same("STATE: it is bare already", x -> x.scrape(2), STATE, x -> x.scrape(2));
        int[] above = {4, 6, 100, 1};
        for (int what = 0; what < 4; what++) {
            int w = what;
            for (int v : new int[] {-1, above[what], LOWEST, HIGHEST}) {
                refused("alter " + what + " to " + v, x -> x.alter(1, w, v), BAD);
            }
        }
        for (int colour : new int[] {-1, 6, 32, 35, LOWEST, HIGHEST}) {
            refused("ought " + colour, x -> x.ought(0, colour, true), BAD);
            refused("may " + colour, x -> x.ought(0, colour, false), BAD);
        }
        for (int act : new int[] {-1, 3, 4, 30, 33, 40, 89, 93, 100, LOWEST, HIGHEST}) {
            refused("plans " + act, x -> x.plans(act), BAD);
        }
        for (int n : new int[] {-1, 6, 8, 9, LOWEST, HIGHEST}) {
            refused("cut " + n, x -> x.cut(n), BAD);
        }
    }

    private static void plans() {
        for (int n : new int[] {-1, 5, LOWEST, HIGHEST}) {
            refused("runs " + n, x -> x.runs(n), BAD);
            refused("ahead " + n, x -> x.ahead(n), BAD);
            refused("clears " + n, x -> x.clears(n), BAD);
            refused("reads " + n, x -> x.reads(n), BAD);
            refused("best of " + n, x -> x.best(n, 0), BAD);
        }
        for (int what : new int[] {-1, 2, 9, LOWEST}) {
            refused("best's what " + what, x -> x.best(3, what), BAD);
            refused("few's what " + what, x -> x.few(what), BAD);
        }
        refused("few by none", x -> x.few(0), NONE);
    }

    private static void whatWas() {
        for (int n : new int[] {-1, 3, LOWEST, HIGHEST}) {
            refused("see at " + n, x -> x.see(n, 0, 0), BAD);
            refused("pots " + n, x -> x.pots(n), BAD);
            refused("orders " + n, x -> x.orders(n), BAD);
        }
        for (int i : new int[] {-1, 6, LOWEST, HIGHEST}) {
            refused("see LAYER " + i, x -> x.see(0, i, 0), BAD);
            refused("see COLOUR " + i, x -> x.see(0, 0, i), BAD);
        }
        refused("see -3", x -> x.see(0, 0, -3), BAD);
        refused("see -5", x -> x.see(0, 0, -5), BAD);
        for (int n : new int[] {-1, 4, 6, 7, LOWEST, HIGHEST}) {
            refused("forget " + n, x -> x.forget(n), BAD);
        }
        same("orders of six", x -> x.orders(0), STATE, x -> x.plans(90));
    }

    private static void odds() {
        for (int v : new int[] {-1, 11, LOWEST, HIGHEST}) {
            refused("luck " + v, x -> x.luck(v, 0, 0), BAD);
            refused("luck at " + v, x -> x.luck(5, v, 0), BAD);
            refused("luck's what " + v, x -> x.luck(5, 0, v), BAD);
            refused("mean " + v, x -> x.mean(v, 0), BAD);
            refused("mean's what " + v, x -> x.mean(5, v), BAD);
            refused("drift's what " + v, x -> x.drift(0, 1, v), BAD);
        }
        for (int n : new int[] {0, -1, 61, LOWEST, HIGHEST}) {
            refused("drift " + n + " times", x -> x.drift(0, n, 0), BAD);
        }
    }

    private static void images() {
        for (int k : new int[] {-1, 2, LOWEST, HIGHEST}) {
            refused("keep " + k, x -> x.keep(k), BAD);
            refused("back " + k, x -> x.back(k), BAD);
            refused("count " + k, x -> x.count(k == 2 ? 5 : k), BAD);
        }
        refused("back 1", x -> x.back(1), STATE);
    }

    private static void sheets() {
        for (int n : new int[] {-1, 4, LOWEST, HIGHEST}) {
            refused("sheet " + n, x -> x.sheet(n, 0, 1), BAD);
            refused("sheet of lane " + n, x -> x.sheet(0, n, 1), BAD);
            refused("lay " + n, x -> x.lay(n, 0, 1), BAD);
        }
        refused("41 CELLS", x -> x.sheet(0, 0, 41), BAD);
        refused("the most CELLS", x -> x.sheet(0, 0, HIGHEST), BAD);
        refused("SIZE", x -> x.sheet(0, 0, -1), -14);
        refused("SIZE of nothing", x -> x.sheet(3, 0, LOWEST), -14);
        refused("NULL", x -> x.lay(3, 0, 1), -11);
        refused("INDEX behind", x -> x.lay(0, 5, 1), -12);
        refused("INDEX ahead", x -> x.lay(0, -1, 1), -12);
        refused("INDEX lowest", x -> x.lay(1, LOWEST, 1), -12);
        refused("INDEX highest", x -> x.lay(2, HIGHEST, 1), -12);
    }

    private static void reads() {
        for (int n : new int[] {-1, 4, LOWEST, HIGHEST}) {
            refused("read " + n, x -> x.read(n, 0, 0, 1), BAD);
            refused("read of lane " + n, x -> x.read(0, n, 0, 1), BAD);
        }
        for (int n : new int[] {-1, 21, LOWEST, HIGHEST}) {
            refused("read " + n + " times", x -> x.read(0, 0, 0, n), BAD);
        }
        // 0 0, 0 0, 9 0: the third VISITOR is none
        refused("the third is refused", x -> x.read(2, 2, 0, 3), -22);
        refused("the third is refused, more behind it", x -> x.read(2, 2, 0, 20), -22);
        refused("the only one is refused", x -> x.read(2, 2, 4, 1), -20);
        same("the second has not so much", x -> x.read(2, 2, 0, 2), -21, x -> x.alter(0, 2, 1));
        same("the second is at a full one", x -> x.read(0, 0, 0, 2), -21, x -> x.lay(0, 3, 1));
    }

    private static void questions() {
        refused("rained", DoorPaints::rained, rich().rained());
        refused("fault", DoorPaints::fault, 1);
        refused("torn", DoorPaints::torn, 2);
        for (int what = 0; what <= 4; what++) {
            int w = what;
            refused("runs", x -> x.runs(w), rich().runs(w));
            refused("count", x -> x.count(w), rich().count(w));
            refused("visitor", x -> x.visitor(1, w), rich().visitor(1, w));
            refused("door", x -> x.door(1, w == 4 ? 10 : w), rich().door(1, w == 4 ? 10 : w));
            refused("plan", x -> x.plan(w), rich().plan(w));
            refused("rule", x -> x.rule(w + 1), rich().rule(w + 1));
        }
        for (int n = 0; n < 3; n++) {
            int w = n;
            refused("ahead", x -> x.ahead(w), rich().ahead(w));
            refused("clears", x -> x.clears(w), rich().clears(w));
            refused("reads", x -> x.reads(w), rich().reads(w));
            refused("pots", x -> x.pots(w), rich().pots(w));
            refused("uses", x -> x.uses(w, 2), rich().uses(w, 2));
            refused("best", x -> x.best(3, w == 2 ? 10 : w), rich().best(3, w == 2 ? 10 : w));
            refused("luck", x -> x.luck(3, w, 0), rich().luck(3, w, 0));
            refused("drift", x -> x.drift(w, 60, 0), rich().drift(w, 60, 0));
        }
        refused("few", x -> x.few(0), rich().few(0));
        refused("orders", x -> x.orders(0), rich().orders(0));
        refused("mean", x -> x.mean(3, 0), rich().mean(3, 0));
        refused("end at its end", x -> x.end(6), 6);
        refused("cut at its end", x -> x.cut(5), 5);
        refused("forget none", x -> x.forget(3), 3);
    }

    /** FULL: a ninth ACT, a seventh that is SEEN. */
    private static void full() {
        Consumer<DoorPaints> eightActs = x -> {
            x.plans(90);
            x.plans(91);
            x.plans(92);
        };
        same("a ninth ACT", x -> x.plans(0), FULL, eightActs);
        same("a ninth HOUR", x -> x.plans(90), FULL, eightActs);
        Consumer<DoorPaints> sixSeen = x -> {
            x.see(1, 0, 5);
            x.see(1, 1, 4);
            x.see(1, 2, 3);
        };
        same("a seventh SEEN", x -> x.see(1, 3, 2), FULL, sixSeen);
        same("a seventh SEEN, not so", x -> x.see(1, 3, 3), FULL, sixSeen);
    }

    /** What was told stays, but THE TAPE is empty and the FAULT is the latest. */
    private static void faultyTexts() {
        String[] texts = {"A", "doors;", "door 6;", "plan;plan;", "door 1 1 1 1 1 1 1;", "plan 33;", "plain 5 5;door 5;plan 91;not 0 5;spy 1 1;priest A"};
        int[] faults = {1, 2, 3, 4, 5, 6, 1};
        for (int i = 0; i < texts.length; i++) {
            DoorPaints one = rich();
            DoorPaints other = rich();
            one.end(0);
            other.end(0);
            check.say(one, texts[i]);
            check.due("the FAULT", one.fault(), faults[i]);
            check.say(one, "A");
            String wanted = witness(other);
            String got = witness(one);
            check.holds("behind '" + texts[i] + "' all is as it was: " + got + " is " + wanted, got.equals(wanted));
        }
    }

    /** A byte that finds no room is not there later on. */
    private static void fullTape() {
        DoorPaints x = check.town("door 1;");
        for (int i = 1; i <= 160; i++) {
            x.feed(i == 160 ? '4' : i < 5 ? "door".charAt(i - 1) : ' ');
        }
        for (int c : new int[] {';', 0, 127}) {
            check.due("no room", x.feed(c), FULL);
        }
        check.due("160 bytes", x.count(3), 160);
        check.due("without an end", x.text(), -170);
        check.layers(x, 0, 1);
    }
}
