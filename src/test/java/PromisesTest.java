/** Answers worked out by hand from the document, promise by promise. */
public final class PromisesTest {
    private static final int BAD = -1, STATE = -2, FULL = -3, NONE = -4;
    private static final int LOWEST = Integer.MIN_VALUE, HIGHEST = Integer.MAX_VALUE;
    /** BRUSHES 1, 2, 3, 1; DOOR 0 SHOWS 0 of three LAYERS, DOOR 1 is bare. */
    private static final String TOWN = "plain 1 10;priest 2 10;miser 3 0;spy 4 10;door 5 4 0;door;";

    private static final Check check = new Check();

    public static void main(String[] args) {
        p01newObject(); p02feed(); p03end(); p04text(); p05faults(); p06rule(); p07visitor(); p08door(); p09plan();
        p10uses(); p11visit(); p12sky(); p13scrape(); p14alter(); p15ought(); p16plans(); p17cut();
        p18runs(); p19ahead(); p20clears(); p21best(); p22few(); p23reads();
        p24see(); p25forget(); p26pots(); p27rained(); p28orders(); p29luck(); p30mean(); p31drift();
        p32keep(); p33back(); p34sheet(); p35lay(); p36read(); p37torn(); p38count();
        check.finish();
    }

    private static void due(String call, long got, long want) {
        check.due(call, got, want);
    }

    private static int say(DoorPaints x, String text) {
        return check.say(x, text);
    }

    private static DoorPaints town(String text) {
        return check.town(text);
    }

    private static void layers(DoorPaints x, int d, int... want) {
        check.layers(x, d, want);
    }

    private static void p01newObject() {
        DoorPaints x = new DoorPaints();
        for (int what = 0; what < 6; what++) {
            due("new: rule " + what, x.rule(what), 0);
        }
        due("new: visitor", x.visitor(0, 0), BAD);
        due("new: door", x.door(0, 0), BAD);
        due("new: plan", x.plan(0), BAD);
        due("new: fault", x.fault(), 0);
        due("new: torn", x.torn(), 0);
        due("new: sheets", x.count(4), NONE);
        for (int k = 0; k < 4; k++) {
            due("new: sheet " + k, x.lay(k, 0, 0), -11);
        }
        due("new: images", x.count(2), 0);
        due("new: rained", x.rained(), 1);
        due("new: orders", x.orders(0), 1);
        due("new: few", x.few(0), 0);
    }

    private static void p02feed() {
        DoorPaints x = new DoorPaints();
        due("feed -1", x.feed(-1), BAD);
        due("feed 128", x.feed(128), BAD);
        due("feed lowest", x.feed(LOWEST), BAD);
        due("feed 0", x.feed(0), 1);
        due("feed 127", x.feed(127), 2);
        for (int i = 3; i <= 160; i++) {
            due("feed the " + i + "th", x.feed(32), i);
        }
        due("feed the 161st", x.feed(32), FULL);
        due("feed 128 on a full tape", x.feed(128), BAD);
        due("bytes", x.count(3), 160);
    }

    private static void p03end() {
        DoorPaints x = new DoorPaints();
        due("end 0 of none", x.end(0), 0);
        due("end 1 of none", x.end(1), BAD);
        x.feed('d');
        x.feed('x');
        due("end -1", x.end(-1), BAD);
        due("end 3 of 2", x.end(3), BAD);
        due("end 2 of 2", x.end(2), 2);
        due("end 1 of 2", x.end(1), 2);
        due("bytes", x.count(3), 1);
        for (char c : "oor;".toCharArray()) {
            x.feed(c);
        }
        due("text", x.text(), 1);
        due("the tape is empty", x.count(3), 0);
    }

    private static void p04text() {
        due("no lines", say(new DoorPaints(), ""), 0);
        due("blanks alone", say(new DoorPaints(), "   "), 0);
        DoorPaints x = town("  plain05 7  ;door0 1;not 0 05;plan;");
        due("05 is 5", x.visitor(0, 1), 5);
        due("paint", x.visitor(0, 2), 7);
        due("not 05", x.door(0, 2), 32);
        layers(x, 0, 0, 1);
        x = town("not 1 2;plan 0;door;plain 0 0;door 2;");
        due("what stands behind is there", x.rule(4), 2);
        x.see(0, 0, 1);
        x.keep(0);
        x.keep(1);
        x.sheet(0, 0, 3);
        x.visit(0, 0);
        due("a fault", say(x, "door 9;"), -15);
        due("told stays", x.rule(0), 1);
        due("seen stays", x.count(1), 1);
        due("images stay", x.count(2), 2);
        due("the tape is empty behind a fault", x.count(3), 0);
        due("in place", say(x, "spy 3 4;"), 1);
        due("visitors", x.rule(0), 1);
        due("kind", x.visitor(0, 0), 3);
        due("doors are gone", x.rule(1), 0);
        due("plan is gone", x.rule(2), 0);
        due("seen is gone", x.count(1), 0);
        due("images are gone", x.count(2), 0);
        due("no image 0", x.back(0), STATE);
        due("sheets stay", x.count(4), 3);
        due("once more", say(x, "door 1 2;not 0 2;plan 90;"), 3);
        due("and once more, with a plan", say(x, "door 3;plan 91 92;"), 2);
        layers(x, 0, 3);
        due("may all", x.door(0, 2), 0);
        due("acts", x.rule(2), 2);
        due("an empty text tells nothing", say(x, ""), 0);
        due("no visitors", x.rule(0), 0);
    }

    private static void faulty(String text, int fault, int place) {
        check.faulty(text, fault, place);
    }

    private static void p05faults() {
        faulty("A", 1, 0);
        faulty("door 1\n;", 1, 6);
        faulty("  -", 1, 2);
        faulty("door 001;", 1, 5);
        faulty("plain 123", 1, 6);
        faulty("123", 1, 0);
        faulty("plain 1 9~", 1, 9);
        faulty("doors;", 2, 0);
        faulty("Door;", 1, 0);
        faulty("3", 2, 0);
        faulty(";", 2, 0);
        faulty("door;;", 2, 5);
        faulty("door", 2, 4);
        faulty("door 1  ", 2, 8);
        faulty("plain 1;", 2, 7);
        faulty("plain 1 2 3;", 2, 10);
        faulty("plain ; 1", 2, 6);
        faulty("not 0;", 2, 5);
        faulty("door 1 door;", 2, 7);
        faulty("plan 0 x;", 2, 7);
        faulty("plain 6 100;", 3, 6);
        faulty("spy 1 1;door 0 6;", 3, 15);
        faulty("not 4 9;", 3, 4);
        faulty("not 3 6;", 3, 6);
        for (String act : new String[] {"4", "14", "34", "40", "89", "93", "99"}) {
            faulty("plan " + act + ";", 3, 5);
        }
        faulty("plan;plan A", 4, 5);
        faulty("door;not 0 1;not 0 2;not 0 1 A", 4, 27);
        faulty("not 3 1;not 3 1;", 4, 14);
        faulty("plain 0 0;priest 0 0;miser 0 0;spy 0 0;plain A", 5, 39);
        faulty("door;door;door;door;door A", 5, 20);
        faulty("door 0 0 0 0 0 0 0 A", 5, 17);
        faulty("door 0 0 0 0 0 0 6;", 3, 17);
        faulty("plan 90 90 90 90 90 90 90 90 90 A", 5, 29);
        faulty("plan 90 90 90 90 90 90 90 90 93;", 3, 29);
        faulty("plan 10;plain 0 0;door;", 6, 23);
        faulty("plan 1;plain 0 0;door;  ", 6, 24);
        faulty("door;not 1 0;", 6, 13);
        faulty("door;not 1 0;door 7", 3, 18);
        DoorPaints x = new DoorPaints();
        say(x, "A");
        due("fault", x.fault(), 1);
        due("fault again", x.fault(), 1);
        say(x, "door;");
        due("fault of the latest", x.fault(), 0);
    }

    private static void p06rule() {
        DoorPaints x = town(TOWN + "not 0 0;not 1 3;plan 0 90 1;");
        due("visitors", x.rule(0), 4);
        due("doors", x.rule(1), 2);
        due("acts", x.rule(2), 3);
        due("wet", x.rule(3), 0);
        due("wrong; a bare one never is", x.rule(4), 1);
        due("paint", x.rule(5), 30);
        x.visit(0, 1);
        due("wet then", x.rule(3), 2);
        due("paint then", x.rule(5), 29);
        due("rule -1", x.rule(-1), BAD);
        due("rule 6", x.rule(6), BAD);
    }

    private static void p07visitor() {
        DoorPaints x = town(TOWN);
        int[][] want = {{0, 1, 10, 0, 1}, {1, 2, 10, 0, 2}, {2, 3, 0, 0, 3}, {3, 4, 10, 0, 1}};
        for (int v = 0; v < 4; v++) {
            for (int what = 0; what < 5; what++) {
                due("visitor " + v + " " + what, x.visitor(v, what), want[v][what]);
            }
        }
        due("visitor 4", x.visitor(4, 0), BAD);
        due("visitor -1", x.visitor(-1, 0), BAD);
        due("what 5", x.visitor(0, 5), BAD);
        due("what -1", x.visitor(0, -1), BAD);
        due("a spy who is the mayor", town("spy 4 1;").visitor(0, 4), 4);
        x.alter(0, 1, 5);
        due("a spy's BRUSH goes with VISITOR 0", x.visitor(3, 4), 5);
    }

    private static void p08door() {
        DoorPaints x = town(TOWN + "not 0 1;not 0 5;");
        layers(x, 0, 5, 4, 0);
        layers(x, 1);
        due("shows", x.door(0, 1), 0);
        due("bare", x.door(1, 1), NONE);
        due("ought not", x.door(0, 2), 34);
        due("dry", x.door(0, 3), 0);
        x.visit(0, 0);
        due("wet", x.door(0, 3), 1);
        for (int what : new int[] {-1, 4, 9, 16, LOWEST, HIGHEST}) {
            due("what " + what, x.door(0, what), BAD);
        }
        due("door 2", x.door(2, 0), BAD);
        due("door -1", x.door(-1, 0), BAD);
    }

    private static void p09plan() {
        DoorPaints x = town(TOWN + "plan 31 90 91 92 0;");
        int[] want = {31, 90, 91, 92, 0};
        for (int i = 0; i < 5; i++) {
            due("plan " + i, x.plan(i), want[i]);
        }
        due("plan 5", x.plan(5), BAD);
        due("plan -1", x.plan(-1), BAD);
    }

    private static void p10uses() {
        DoorPaints x = town("plain 0 0;priest 0 0;miser 0 0;spy 0 0;door;door 1 1;door 1 1 1;door 1 1 1 1 1 1;");
        int[] once = {1, 1, 2, 3};
        for (int d = 0; d < 4; d++) {
            due("plain", x.uses(0, d), once[d]);
            due("priest", x.uses(1, d), 2 * once[d]);
            due("miser", x.uses(2, d), 0);
            due("spy", x.uses(3, d), once[d]);
        }
        due("no visitor", x.uses(4, 0), BAD);
        due("no door", x.uses(0, 4), BAD);
        due("below", x.uses(-1, 0), BAD);
        due("below", x.uses(0, -1), BAD);
    }

    private static void p11visit() {
        DoorPaints x = town(TOWN);
        due("a miser at a bare door", x.visit(2, 1), NONE);
        due("it stays dry", x.door(1, 3), 0);
        due("plain", x.visit(0, 0), 1);
        layers(x, 0, 5, 4, 0, 1);
        due("paint", x.visitor(0, 2), 8);
        due("wet", x.door(0, 3), 1);
        due("no mark from a dry one", x.visitor(0, 3), 0);
        due("a priest on wet paint", x.visit(1, 0), 3);
        layers(x, 0, 5, 4, 0, 3);
        due("twice as much", x.visitor(1, 2), 6);
        due("his sleeve", x.visitor(1, 3), 2);
        due("a miser on wet paint", x.visit(2, 0), 3);
        due("his sleeve, too", x.visitor(2, 3), 8);
        due("it is wet still", x.door(0, 3), 1);
        due("a spy", x.visit(3, 0), 4);
        due("a sleeve of the spy", x.visitor(3, 3), 8);
        due("the miser once more", x.visit(2, 0), 4);
        due("two marks", x.visitor(2, 3), 24);
        due("no visitor", x.visit(4, 0), BAD);
        due("no door", x.visit(0, 2), BAD);
        due("below", x.visit(-1, 0), BAD);
        due("below", x.visit(0, -1), BAD);
        x = town("plain 1 2;priest 1 5;plain 1 3;miser 2 0;door 0 0 0 0 0 0;door 0 0 0 0 0;");
        due("not so much, and full", x.visit(0, 0), STATE);
        due("a priest with less than twice", x.visit(1, 0), STATE);
        due("full", x.visit(2, 0), FULL);
        due("a miser at a full one", x.visit(3, 0), 0);
        due("nothing was taken", x.rule(5), 10);
        layers(x, 0, 0, 0, 0, 0, 0, 0);
        due("the sixth layer", x.visit(0, 1), 1);
        due("full and wet", x.visit(2, 1), 2);
        layers(x, 1, 0, 0, 0, 0, 0, 2);
        due("all paint is gone", x.visit(0, 1), STATE);
        due("the mark", x.visitor(2, 3), 2);
    }

    private static void p12sky() {
        DoorPaints x = town("plain 1 20;door 1 2 3 4 5;door 5 2;door 3;door;");
        due("rain", x.sky(1), 5);
        layers(x, 0, 1, 2, 0);
        layers(x, 1, 1);
        layers(x, 2, 3);
        layers(x, 3);
        due("a bare one is not wet", x.rule(3), 7);
        due("an hour", x.sky(0), 5);
        due("all dry", x.rule(3), 0);
        due("sun", x.sky(2), 4);
        layers(x, 0, 1, 2);
        x = town("plain 1 20;door 0 0;door 0 1 0 0;door 1 0 1;");
        x.visit(0, 2);
        due("sun", x.sky(2), 6);
        layers(x, 0);
        layers(x, 1, 0, 1);
        layers(x, 2, 1, 0, 1, 1);
        due("all dry", x.rule(3), 0);
        due("sky -1", x.sky(-1), BAD);
        due("sky 3", x.sky(3), BAD);
    }

    private static void p13scrape() {
        DoorPaints x = town("plain 1 20;door 2 3;door;");
        x.visit(0, 0);
        due("scrape", x.scrape(0), 3);
        due("dry", x.door(0, 3), 0);
        due("scrape", x.scrape(0), 2);
        due("scrape", x.scrape(0), NONE);
        due("bare already", x.scrape(0), STATE);
        due("bare at first", x.scrape(1), STATE);
        due("no door", x.scrape(2), BAD);
        due("below", x.scrape(-1), BAD);
    }

    private static void p14alter() {
        DoorPaints x = town(TOWN);
        due("kind", x.alter(0, 0, 3), 0);
        due("colour", x.alter(0, 1, 0), 1);
        due("paint", x.alter(0, 2, 99), 10);
        due("kind now", x.visitor(0, 0), 3);
        due("colour now", x.visitor(0, 1), 0);
        due("paint now", x.visitor(0, 2), 99);
        x.visit(0, 1);
        x.visit(0, 1);
        due("sleeve 1", x.alter(0, 3, 1), BAD);
        due("sleeve", x.alter(0, 3, 0), 1);
        due("washed", x.alter(0, 3, 0), 0);
        int[] most = {3, 5, 99, 0};
        for (int what = 0; what < 4; what++) {
            due("too much " + what, x.alter(0, what, most[what] + 1), BAD);
            due("below " + what, x.alter(0, what, -1), BAD);
        }
        due("what -1", x.alter(0, -1, 0), BAD);
        due("what 4", x.alter(0, 4, 0), BAD);
        due("visitor 4", x.alter(4, 0, 0), BAD);
        due("visitor -1", x.alter(-1, 0, 0), BAD);
        due("paint is as it was", x.visitor(0, 2), 97);
    }

    private static void p15ought() {
        DoorPaints x = town(TOWN);
        due("ought not", x.ought(0, 0, true), 1);
        due("wrong", x.rule(4), 1);
        due("ought not still", x.ought(0, 0, true), 1);
        due("ought not 5", x.ought(0, 5, true), 1);
        due("bits", x.door(0, 2), 33);
        due("may", x.ought(0, 0, false), 0);
        due("may still", x.ought(0, 0, false), 0);
        due("bits", x.door(0, 2), 32);
        due("right", x.rule(4), 0);
        due("colour 6", x.ought(0, 6, true), BAD);
        due("colour -1", x.ought(0, -1, true), BAD);
        due("door 2", x.ought(2, 0, true), BAD);
        due("door -1", x.ought(-1, 0, false), BAD);
    }

    private static void p16plans() {
        DoorPaints x = town(TOWN);
        int[] acts = {0, 1, 30, 31, 90, 91, 92, 10};
        for (int act : new int[] {-1, 2, 3, 4, 34, 40, 41, 89, 93, 100, LOWEST, HIGHEST}) {
            due("no such act " + act, x.plans(act), BAD);
        }
        for (int i = 0; i < 8; i++) {
            due("act " + i, x.plans(acts[i]), i + 1);
        }
        due("a ninth", x.plans(90), FULL);
        due("no act at all", x.plans(93), BAD);
        due("the last", x.plan(7), 10);
        due("no such visitor", town("door;").plans(0), BAD);
    }

    private static void p17cut() {
        DoorPaints x = town(TOWN + "plan 0 1 90;");
        due("cut 4", x.cut(4), BAD);
        due("cut -1", x.cut(-1), BAD);
        due("cut 3", x.cut(3), 3);
        due("cut 1", x.cut(1), 3);
        due("acts", x.rule(2), 1);
        due("plan 1", x.plan(1), BAD);
        due("cut 0", x.cut(0), 1);
        due("cut 0 of none", x.cut(0), 0);
    }

    private static void p18runs() {
        // 10: DOOR 0 becomes 5 4 0 2, taking 4; 20: sleeve 2; 0: 3, taking 2; 92: dry; 0: a layer 1, taking 2; 10 takes 4; 10 can not be
        DoorPaints x = town(TOWN + "not 0 5;not 1 0;plan 10 20 0 92 0 10 10 31;");
        due("paint", x.runs(0), 13);
        due("wrong", x.runs(1), 0);
        due("the first that can not be", x.runs(2), 6);
        due("layers", x.runs(3), 6);
        due("sleeves", x.runs(4), 7);
        due("what -1", x.runs(-1), BAD);
        due("what 5", x.runs(5), BAD);
        due("nothing has changed", x.rule(5), 30);
        layers(x, 0, 5, 4, 0);
        x.cut(6);
        due("all can", x.runs(2), NONE);
        x.cut(0);
        due("no acts", x.runs(0), 0);
        due("no acts", x.runs(3), 3);
        x.ought(0, 0, true);
        due("wrong now", x.runs(1), 1);
        x.visit(0, 1);
        x.visit(2, 1);
        due("a sleeve that was marked before", x.runs(4), 4);
    }

    private static void p19ahead() {
        DoorPaints x = town(TOWN + "plan 10 0;");
        due("ahead 0", x.ahead(0), 3);
        due("ahead 1", x.ahead(1), NONE);
        due("ahead 2", x.ahead(2), BAD);
        due("ahead -1", x.ahead(-1), BAD);
        due("shows as before", x.door(0, 1), 0);
    }

    private static void p20clears() {
        DoorPaints x = town(TOWN + "not 0 2;not 0 0;not 1 1;");
        due("clears 0: neither the priest's 2 nor the miser", x.clears(0), 9);
        due("clears 1: neither BRUSH 1", x.clears(1), 6);
        x.alter(0, 2, 1);
        due("he who can not visit does not", x.clears(0), 8);
        due("clears 2", x.clears(2), BAD);
        due("clears -1", x.clears(-1), BAD);
        due("nothing has changed", x.rule(5), 21);
    }

    private static void p21best() {
        DoorPaints x = town("plain 0 9;plain 1 9;door 0;door 0;not 0 0;not 1 0;");
        due("none: wrong", x.best(0, 0), 2);
        due("none: paint", x.best(0, 1), 0);
        due("none: first", x.best(0, 10), NONE);
        due("one: wrong", x.best(1, 0), 1);
        due("one: paint", x.best(1, 1), 1);
        due("one: first", x.best(1, 10), 10);
        due("one: second", x.best(1, 11), NONE);
        due("two: wrong", x.best(2, 0), 0);
        due("two: paint", x.best(2, 1), 2);
        due("two: first", x.best(2, 10), 10);
        due("two: second", x.best(2, 11), 11);
        due("three: wrong", x.best(3, 0), 0);
        due("three: paint", x.best(3, 1), 3);
        due("three: the first row of several", x.best(3, 10), 0);
        due("three: second", x.best(3, 11), 10);
        due("three: third", x.best(3, 12), 11);
        due("three: not so many", x.best(3, 13), NONE);
        due("three: far from so many", x.best(3, HIGHEST), NONE);
        x.alter(0, 2, 0);
        due("one passed over takes nothing", x.best(3, 1), 2);
        due("n -1", x.best(-1, 0), BAD);
        due("n 4", x.best(4, 0), BAD);
        for (int what : new int[] {-1, 2, 9, LOWEST}) {
            due("what " + what, x.best(1, what), BAD);
        }
        x = town("door 0;not 0 0;");
        due("no visits: wrong", x.best(2, 0), 1);
        due("no visits: paint", x.best(2, 1), 0);
        due("no visits: first", x.best(2, 10), NONE);
    }

    private static void p22few() {
        DoorPaints x = town("plain 0 9;plain 1 9;door 0;door 0;door 1;not 0 0;not 1 0;");
        due("how many", x.few(0), 2);
        due("first", x.few(10), 10);
        due("second", x.few(11), 11);
        due("not so many", x.few(12), NONE);
        x.ought(2, 1, true);
        due("three", x.few(0), 3);
        due("the first such row", x.few(10), 2);
        due("then", x.few(11), 10);
        due("last", x.few(12), 11);
        due("not so many", x.few(13), NONE);
        due("far from so many", x.few(HIGHEST), NONE);
        x.alter(1, 2, 0);
        due("by none", x.few(0), NONE);
        due("by none, first", x.few(10), NONE);
        x.ought(0, 0, false);
        x.ought(1, 0, false);
        x.ought(2, 1, false);
        due("none is needed", x.few(0), 0);
        due("none is needed, first", x.few(10), NONE);
        for (int what : new int[] {-1, 1, 9, LOWEST}) {
            due("what " + what, x.few(what), BAD);
        }
        x = town("plain 0 9;door 1;not 0 1;");
        x.visit(0, 0);
        x.ought(0, 0, true);
        due("0 and 0 is 0 on a wet one", x.few(0), NONE);
        due("the first, not the cheapest", town("priest 1 9;plain 1 9;door 0;not 0 0;").few(10), 0);
    }

    private static void p23reads() {
        DoorPaints x = town("plain 4 1;spy 5 1;miser 3 0;plain 5 0;door 5 4 0;door;door 3 3;door 4;");
        due("4", x.reads(0), 9);
        due("a spy's 4", x.reads(1), 9);
        due("a miser's 3", x.reads(2), 4);
        due("5", x.reads(3), 1);
        due("no visitor", x.reads(4), BAD);
        due("below", x.reads(-1), BAD);
    }

    private static void p24see() {
        DoorPaints x = town(TOWN);
        due("colour 6", x.see(0, 0, 6), BAD);
        due("colour -1", x.see(0, 0, -1), BAD);
        due("layer 6", x.see(0, 6, 0), BAD);
        due("layer -1", x.see(0, -1, 0), BAD);
        due("door 2", x.see(2, 0, 0), BAD);
        due("door -1", x.see(-1, 0, 0), BAD);
        due("seen", x.see(0, 0, 5), 1);
        due("seen", x.see(0, 5, NONE), 2);
        for (int i = 3; i <= 6; i++) {
            due("seen", x.see(1, 0, NONE), i);
        }
        due("a seventh", x.see(1, 0, 1), FULL);
        due("a bad seventh", x.see(1, 0, 6), BAD);
        due("as seen", x.rained(), 0);
        x.forget(1);
        x.see(0, 1, 3);
        due("not as seen", x.orders(0), 0);
    }

    private static void p25forget() {
        DoorPaints x = town(TOWN);
        x.see(0, 0, 5);
        x.see(0, 0, 1);
        due("not as seen", x.orders(0), 0);
        due("forget 3", x.forget(3), BAD);
        due("forget -1", x.forget(-1), BAD);
        due("forget 2", x.forget(2), 2);
        due("forget 1", x.forget(1), 2);
        due("the first one is left", x.orders(0), 1);
        due("forget 0", x.forget(0), 1);
        due("seen", x.count(1), 0);
    }

    private static void p26pots() {
        // 0 paints 1 at DOOR 1; the priest's 2 on it is 3
        DoorPaints x = town(TOWN + "plan 1 11;");
        due("nothing seen", x.pots(0), 15);
        x.see(1, 0, 3);
        due("with 1: his own and the spy's", x.pots(0), 9);
        due("with 2", x.pots(1), 2);
        due("who did not go", x.pots(2), 15);
        due("no visitor", x.pots(4), BAD);
        due("below", x.pots(-1), BAD);
        // a miser paints nothing, whatever he carries; a spy's BRUSH may be another's
        x = town("plain 1 9;miser 2 0;spy 0 9;plain 5 9;door;plan 10 20;");
        x.see(0, 0, 5);
        due("the miser", x.pots(1), 0);
        due("the spy went with 5", x.pots(2), 8);
        due("the mayor's pot does not change the spy's", x.pots(0), 0);
    }

    private static void p27rained() {
        // 1, then 2 on it while wet: 3
        DoorPaints x = town("plain 1 9;plain 2 9;door 1 1;plan 0 90 10;");
        due("nothing seen", x.rained(), 15);
        x.see(0, 0, 2);
        // behind 0: 2 (wet), then 2+1=3, dry, 3 2
        // behind 1: 1 1 1 is 3, dry, 3 2; behind 2: likewise but wet: 3+2=5; behind 3: 1 1 1 2: 1 4
        due("none", x.rained(), 0);
        x.forget(0);
        x.see(0, 0, 3);
        due("behind 0, 1", x.rained(), 3);
        x.forget(0);
        x.see(0, 0, 5);
        due("behind 2", x.rained(), 4);
        x.see(0, 1, NONE);
        due("behind 2", x.rained(), 4);
        x.forget(0);
        x.see(0, 1, 4);
        due("behind 3", x.rained(), 8);
        x.cut(0);
        due("no acts", x.rained(), 0);
        x.forget(0);
        x.see(0, 0, 2);
        due("no acts, one bit", x.rained(), 1);
        x = town("plan 90 90 90 90 90 90 90 90;");
        due("behind eight", x.rained(), 511);
    }

    private static void p28orders() {
        // dry between: two layers; wet: one of 3
        DoorPaints x = town("plain 1 9;plain 2 9;door;plan 0 90 10;");
        due("all", x.orders(0), 6);
        due("all, the last", x.orders(1), 7);
        x.see(0, 0, 1);
        due("0 90 10 alone", x.orders(0), 1);
        due("the last is 10", x.orders(1), 4);
        x.forget(0);
        x.see(0, 0, 3);
        due("0 10 or 10 0, the hour ahead or behind", x.orders(0), 4);
        due("the last", x.orders(1), 7);
        x.see(0, 1, 0);
        due("none", x.orders(0), 0);
        due("none, no last", x.orders(1), 0);
        x = town("plain 1 9;door;plan 0 0 90 90 90;");
        due("alike ones told apart", x.orders(0), 120);
        due("what -1", x.orders(-1), BAD);
        due("what 2", x.orders(2), BAD);
        x.plans(90);
        due("six acts", x.orders(0), STATE);
        due("six acts, bad", x.orders(2), BAD);
        x.cut(0);
        due("no acts", x.orders(0), 1);
        due("no acts, no last", x.orders(1), 0);
    }

    private static void odds(DoorPaints x, int v, int d, long part, long whole) {
        due("luck " + v, x.luck(v, d, 0), part);
        due("luck by " + v, x.luck(v, d, 1), whole);
    }

    private static void p29luck() {
        DoorPaints x = town("plain 1 9;plain 2 9;door;door 1;not 0 3;not 0 1;not 1 1;plan 0 10;");
        // WRONG are 1 alone and both (3); 2 alone is not
        odds(x, 5, 0, 1, 2);
        odds(x, 3, 0, 3, 10);
        odds(x, 0, 0, 0, 1);
        odds(x, 10, 0, 1, 1);
        odds(x, 5, 1, 1, 1);
        x.ought(0, 3, false);
        odds(x, 3, 0, 21, 100);
        odds(x, 5, 0, 1, 4);
        odds(x, 10, 0, 0, 1);
        x.alter(1, 2, 0);
        odds(x, 3, 0, 3, 10);
        due("v -1", x.luck(-1, 0, 0), BAD);
        due("v 11", x.luck(11, 0, 0), BAD);
        due("door 2", x.luck(5, 2, 0), BAD);
        due("door -1", x.luck(5, -1, 0), BAD);
        due("what 2", x.luck(5, 0, 2), BAD);
        due("what -1", x.luck(5, 0, -1), BAD);
        // 3 comes by an odd number of eight visits: (1 - 0.8^8) / 2
        x = town("plain 3 99;door;not 0 3;plan 0 0 0 0 0 0 0 0;");
        odds(x, 1, 0, 325089, 781250);
    }

    private static void meant(DoorPaints x, int v, long part, long whole) {
        due("mean " + v, x.mean(v, 0), part);
        due("mean by " + v, x.mean(v, 1), whole);
    }

    private static void p30mean() {
        DoorPaints x = town("plain 1 9;priest 2 2;door 1 1;plan 0 90 10;");
        // 0 takes 1; 10 takes 2 on two layers and can not be on three
        meant(x, 0, 0, 1);
        meant(x, 10, 1, 1);
        meant(x, 5, 1, 1);
        meant(x, 1, 7, 25);
        x.alter(1, 2, 4);
        // both: 1 and 4; 0.3*1 + 0.3*(0.7*2 + 0.3*4)
        meant(x, 3, 27, 25);
        x.cut(0);
        meant(x, 5, 0, 1);
        due("v -1", x.mean(-1, 0), BAD);
        due("v 11", x.mean(11, 0), BAD);
        due("what 2", x.mean(5, 2), BAD);
        due("what -1", x.mean(5, -1), BAD);
    }

    private static void p31drift() {
        // seed 0 gets 0: 0 at DOOR 0; 21468: 1 at DOOR 0; 9988: 0 at DOOR 0; 22117: an HOUR; 3498: 1 at DOOR 1; 16927: SUN
        DoorPaints x = town("plain 1 9;plain 2 9;door;door;not 0 1;not 1 1;not 1 2;");
        due("one", x.drift(0, 1, 0), 1);
        due("one, wrong", x.drift(0, 1, 1), 1);
        due("two", x.drift(0, 2, 0), 1);
        due("two, wrong", x.drift(0, 2, 1), 0);
        due("five", x.drift(0, 5, 0), 2);
        due("five, wrong", x.drift(0, 5, 1), 2);
        x.ought(0, 4, true);
        due("six, wrong", x.drift(0, 6, 1), 3);
        due("n 0", x.drift(0, 0, 0), BAD);
        due("n 61", x.drift(0, 61, 0), BAD);
        due("what 2", x.drift(0, 1, 2), BAD);
        due("what -1", x.drift(0, 1, -1), BAD);
        due("nothing has changed", x.count(0), 0);
        due("nothing was taken", x.rule(5), 18);
        due("no doors", town("plain 1 1;").drift(0, 1, 0), STATE);
        due("no visitors", town("door;").drift(0, 1, 0), STATE);
        due("no doors, bad", town("plain 1 1;").drift(0, 0, 0), BAD);
        due("rain makes three one", town("miser 1 1;door 1 1 1 1 1;").drift(1, 1, 0), 3);
        due("sun takes red", town("miser 1 1;door 1 0 0;").drift(5, 1, 0), 1);
        due("sixty by misers", town("miser 1 1;door 1;").drift(HIGHEST, 60, 0), 1);
    }

    private static void p32keep() {
        DoorPaints x = town(TOWN);
        due("keep -1", x.keep(-1), BAD);
        due("keep 2", x.keep(2), BAD);
        due("none", x.count(2), 0);
        due("keep 0", x.keep(0), 0);
        due("keep 0 again", x.keep(0), 1);
        due("keep 1", x.keep(1), 0);
        due("both", x.count(2), 2);
    }

    private static void p33back() {
        DoorPaints x = town(TOWN + "not 0 1;plan 0 90;");
        due("back -1", x.back(-1), BAD);
        due("back 2", x.back(2), BAD);
        due("back 0", x.back(0), STATE);
        x.see(0, 0, 5);
        x.visit(1, 1);
        x.visit(2, 1);
        x.keep(0);
        x.alter(0, 0, 2);
        x.alter(0, 1, 5);
        x.alter(0, 2, 7);
        x.alter(2, 3, 0);
        x.ought(0, 1, false);
        x.ought(0, 4, true);
        x.scrape(0);
        x.sky(0);
        x.plans(91);
        x.forget(0);
        due("back 1", x.back(1), STATE);
        due("back 0", x.back(0), 4);
        due("kind", x.visitor(0, 0), 0);
        due("colour", x.visitor(0, 1), 1);
        due("paint", x.visitor(0, 2), 10);
        due("sleeve", x.visitor(2, 3), 4);
        due("ought not", x.door(0, 2), 2);
        layers(x, 0, 5, 4, 0);
        due("wet", x.rule(3), 2);
        due("plan", x.rule(2), 2);
        due("seen", x.count(1), 1);
        x.scrape(0);
        x.forget(0);
        x.see(1, 5, 1);
        due("not as seen", x.orders(0), 0);
        due("the image stays", x.back(0), 4);
        due("as seen then", x.orders(0), 2);
    }

    private static void p34sheet() {
        DoorPaints x = new DoorPaints();
        due("sheet -1", x.sheet(-1, 0, 1), BAD);
        due("sheet 4", x.sheet(4, 0, 1), BAD);
        due("lane -1", x.sheet(0, -1, 1), BAD);
        due("lane 3", x.sheet(0, 3, 1), BAD);
        due("41 cells", x.sheet(0, 0, 41), BAD);
        due("-1 cells", x.sheet(0, 0, -1), -14);
        due("lowest cells", x.sheet(3, 2, LOWEST), -14);
        due("-1 cells, bad lane", x.sheet(0, 3, -1), BAD);
        due("nothing still", x.count(4), NONE);
        due("no cells", x.sheet(0, 0, 0), 1);
        due("cells", x.count(4), 0);
        due("40 cells", x.sheet(0, 2, 40), 1);
        due("cells", x.count(4), 40);
        due("-1 cells", x.sheet(0, 0, -1), -14);
        due("cells", x.count(4), 40);
        x = town("miser 1 1;door;");
        x.sheet(0, 0, 2);
        x.lay(0, 0, 1);
        due("no VISITOR 1", x.read(0, 0, 0, 1), -20);
        x.sheet(0, 0, 2);
        due("a new row of 0", x.read(0, 0, 0, 1), 1);
    }

    private static void p35lay() {
        DoorPaints x = town("miser 0 0;miser 1 1;door;door 1;");
        due("sheet -1", x.lay(-1, 0, 0), BAD);
        due("sheet 4", x.lay(4, 0, 0), BAD);
        due("nothing", x.lay(0, 0, 0), -11);
        due("nothing, no such cell", x.lay(0, -1, 0), -11);
        for (int lane = 0; lane < 3; lane++) {
            x.sheet(lane, lane, 2);
            due("cell -1", x.lay(lane, -1, 0), -12);
            due("cell 2", x.lay(lane, 2, 0), -12);
            due("cell 0", x.lay(lane, 0, 1), 1);
            due("cell 1", x.lay(lane, 1, 1), 1);
            due("read", x.read(lane, lane, 0, 1), 1);
        }
        x.lay(0, 0, 257);
        due("the lowest 8 bits", x.read(0, 0, 0, 1), 1);
        x.lay(0, 0, 255);
        due("255 is -1", x.read(0, 0, 0, 1), -20);
        x.lay(1, 0, 65537);
        due("the lowest 16 bits", x.read(1, 1, 0, 1), 1);
        x.lay(1, 0, 257);
        due("257 as a short", x.read(1, 1, 0, 1), -20);
        x.lay(2, 0, 65537);
        due("all bits", x.read(2, 2, 0, 1), -20);
    }

    private static void p36read() {
        DoorPaints x = town("plain 1 2;miser 2 0;door;door 3;");
        x.sheet(0, 1, 7);
        due("sheet -1", x.read(-1, 0, 0, 1), BAD);
        due("sheet 4", x.read(4, 0, 0, 1), BAD);
        due("lane -1", x.read(0, -1, 0, 1), BAD);
        due("lane 3", x.read(0, 3, 0, 1), BAD);
        due("n -1", x.read(0, 1, 0, -1), BAD);
        due("n 21", x.read(0, 1, 0, 21), BAD);
        due("none", x.read(0, 1, 0, 0), 0);
        x.lay(0, 2, 1);
        // cells 0 0 1 0 0 0 0: VISITOR 0, the miser, VISITOR 0, half a pair
        due("two", x.read(0, 1, 0, 2), 2);
        due("paint", x.visitor(0, 2), 1);
        due("the miser's sleeve", x.visitor(1, 3), 2);
        due("the first is refused", x.read(0, 1, 1, 1), 1);
        due("paint", x.visitor(0, 2), 0);
        x.alter(0, 2, 1);
        due("the third is refused, none did", x.read(0, 1, 0, 20), -22);
        due("paint", x.visitor(0, 2), 1);
        x.alter(0, 2, 5);
        due("three, then half a pair", x.read(0, 1, 0, 20), 3);
        due("paint", x.visitor(0, 2), 3);
        due("torn", x.torn(), 2);
        due("from -1", x.read(0, 1, -1, 1), 0);
        due("from lowest", x.read(0, 1, LOWEST, 20), 0);
        due("from highest", x.read(0, 1, HIGHEST, 20), 0);
        due("another lane", x.read(0, 0, 0, 1), 0);
        due("nothing", x.read(1, 0, 0, 1), 0);
        x.lay(0, 1, 2);
        due("no door 2", x.read(0, 1, 0, 1), -20);
        x = town("plain 1 9;miser 2 0;door 0 0 0 0 0 0;door;");
        x.sheet(0, 2, 4);
        x.lay(0, 0, 1);
        x.lay(0, 1, 1);
        due("NONE is an answer, FULL is not", x.read(0, 2, 0, 2), -21);
        due("NONE is an answer", x.read(0, 2, 0, 1), 1);
        x.sheet(0, 2, 40);
        for (int i = 0; i < 40; i++) {
            x.lay(0, i, 1);
        }
        due("twenty", x.read(0, 2, 0, 20), 20);
        due("whole", x.torn(), 0);
    }

    private static void p37torn() {
        DoorPaints x = town("miser 1 0;door;");
        due("at first", x.torn(), 0);
        x.read(0, 0, 0, 1);
        due("nothing", x.torn(), 1);
        x.sheet(0, 0, 2);
        due("no read yet", x.torn(), 1);
        x.read(0, 0, 0, 2);
        due("index", x.torn(), 2);
        x.read(0, 1, 0, 1);
        due("cast", x.torn(), 3);
        x.read(0, 1, 50, 1);
        due("the cast is ahead of the index", x.torn(), 3);
        x.read(0, 0, 0, 21);
        due("BAD is no end", x.torn(), 3);
        due("nothing is read of another lane", x.read(0, 1, 0, 0), 0);
        due("nothing is found", x.torn(), 0);
        x.read(0, 1, 0, 1);
        x.lay(0, 0, 7);
        due("refused", x.read(0, 0, 0, 1), -20);
        due("refused is no end", x.torn(), 3);
        x.sheet(0, 0, 2);
        x.read(0, 0, 0, 1);
        due("whole", x.torn(), 0);
        due("the door's cell alone is missing", x.read(0, 0, 1, 1), 0);
        due("index", x.torn(), 2);
    }

    private static void p38count() {
        DoorPaints x = town(TOWN);
        due("layers", x.count(0), 3);
        due("seen", x.count(1), 0);
        due("images", x.count(2), 0);
        due("bytes", x.count(3), 0);
        due("cells", x.count(4), NONE);
        x.visit(0, 1);
        x.see(0, 0, 0);
        x.keep(1);
        x.feed(65);
        x.sheet(1, 0, 7);
        due("sheet 0 is nothing still", x.count(4), NONE);
        x.sheet(0, 0, 5);
        due("layers", x.count(0), 4);
        due("seen", x.count(1), 1);
        due("images", x.count(2), 1);
        due("bytes", x.count(3), 1);
        due("cells", x.count(4), 5);
        due("count -1", x.count(-1), BAD);
        due("count 5", x.count(5), BAD);
    }
}
