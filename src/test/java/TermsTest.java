/** Each sentence of "Terms" that names a boundary has a test of its own here; the sentence stands above it. */
public final class TermsTest {
    private static final int BAD = -1, STATE = -2, FULL = -3, NONE = -4;
    private static final int LOWEST = Integer.MIN_VALUE, HIGHEST = Integer.MAX_VALUE;
    private static final String[] KINDS = {"plain", "priest", "miser", "spy"};
    private static final String FOUR_AND_FOUR = "plain 0 9;plain 1 9;plain 2 9;plain 3 9;door;door;door;door;";

    private static final Check check = new Check();

    public static void main(String[] args) {
        firstThatFits(); zeroAndOne(); lowestTerms(); widestFraction();
        visitorsByOrder(); fifthVisitor(); colourAndPaint(); atFirst();
        doorsByOrder(); fifthDoor(); sixLayers(); showsTheTop();
        eightActs(); whichNumbersAreActs(); hundredAndSixtyBytes(); wholeTape();
        everyByteFirst(); everyByteAsNumber(); asLongAsMayBe(); namesThatBeginLines(); figures(); blanks();
        cutShort(); wrongTokens(); tokenByToken(); outOfBounds(); secondTime(); tooMany(); notThere(); inPlace();
        paintOfVisits(); notSoMuch(); sixAndDry(); brushes(); wetMixes(); miserOnWet(); sleeveGathers();
        hour(); rainByHeight(); rainWets(); sunTakesRed(); wrongIsWhatShows();
        sixSeen(); seenByHeight(); passedOver(); sheetsAndCells(); machineFaults();
        check.finish();
    }

    private static void due(String call, long got, long want) {
        check.due(call, got, want);
    }

    private static DoorPaints town(String text) {
        return check.town(text);
    }

    private static void faulty(String text, int fault, int place) {
        check.faulty(text, fault, place);
    }

    private static String blanks(int n) {
        return " ".repeat(n);
    }

    // ---- Answers

    /** BAD, STATE, FULL, NONE, the first that fits. */
    private static void firstThatFits() {
        DoorPaints x = town("plain 0 0;plain 1 9;door 0 0 0 0 0 0;not 0 0;plan 90 90 90 90 90 90 90 90;");
        due("no such DOOR is ahead of no PAINT", x.visit(0, 1), BAD);
        due("no such VISITOR is ahead of a full DOOR", x.visit(2, 0), BAD);
        due("no PAINT is ahead of a full DOOR", x.visit(0, 0), STATE);
        due("a full DOOR", x.visit(1, 0), FULL);
        due("no ACT is ahead of a full PLAN", x.plans(93), BAD);
        due("no such VISITOR is ahead of a full PLAN", x.plans(20), BAD);
        due("a full PLAN", x.plans(10), FULL);
        due("no such what is ahead of too many ACTS", x.orders(2), BAD);
        due("too many ACTS", x.orders(1), STATE);
        due("no such what is ahead of by none", x.few(1), BAD);
        due("by none", x.few(0), NONE);
        for (int i = 1; i <= 6; i++) {
            due("SEEN", x.see(0, 0, 0), i);
        }
        due("no COLOUR is ahead of six SEEN", x.see(0, 0, 6), BAD);
        due("six SEEN", x.see(0, 0, 0), FULL);
        due("no such IMAGE", x.back(2), BAD);
        due("no IMAGE", x.back(1), STATE);
        due("no such lane is ahead of SIZE", x.sheet(0, 3, -1), BAD);
        due("no such SHEET is ahead of SIZE", x.sheet(4, 0, -1), BAD);
        due("no such SHEET is ahead of NULL", x.lay(4, 0, 0), BAD);
        due("NULL is ahead of INDEX", x.lay(0, 40, 0), -11);
        due("no such lane is ahead of NULL", x.read(0, 3, 0, 1), BAD);
        x = new DoorPaints();
        due("no such n is ahead of no VISITORS", x.drift(0, 61, 0), BAD);
        due("no such what is ahead of no VISITORS", x.drift(0, 60, 2), BAD);
        due("no VISITORS", x.drift(0, 60, 1), STATE);
        for (int i = 1; i <= 160; i++) {
            x.feed(32);
        }
        due("no byte is ahead of a full TAPE", x.feed(128), BAD);
        due("a full TAPE", x.feed(127), FULL);
    }

    private static void fraction(String call, long part, long whole, long wantPart, long wantWhole) {
        due(call + ", above", part, wantPart);
        due(call + ", below", whole, wantWhole);
    }

    /** 0 is 0 by 1; a whole is 1 by 1. */
    private static void zeroAndOne() {
        DoorPaints x = town("plain 1 9;door 2;not 0 2;plan 0;");
        fraction("never WRONG", x.luck(10, 0, 0), x.luck(10, 0, 1), 0, 1);
        fraction("always WRONG", x.luck(0, 0, 0), x.luck(0, 0, 1), 1, 1);
        fraction("nothing is taken", x.mean(0, 0), x.mean(0, 1), 0, 1);
        x = new DoorPaints();
        fraction("nobody is there", x.mean(10, 0), x.mean(10, 1), 0, 1);
    }

    /** Fractions are in lowest terms. */
    private static void lowestTerms() {
        long[][] tenths = {{0, 1}, {1, 10}, {1, 5}, {3, 10}, {2, 5}, {1, 2}, {3, 5}, {7, 10}, {4, 5}, {9, 10}, {1, 1}};
        DoorPaints x = town("plain 1 9;door 2;not 0 1;plan 0;");
        for (int v = 0; v <= 10; v++) {
            fraction("luck " + v, x.luck(v, 0, 0), x.luck(v, 0, 1), tenths[v][0], tenths[v][1]);
            fraction("mean " + v, x.mean(v, 0), x.mean(v, 1), tenths[v][0], tenths[v][1]);
        }
    }

    private static void widestFraction() {
        // 3 comes on 1, then 0 and 3 by turns: WRONG (1) is the DOOR if none of the eight comes
        DoorPaints x = town("plain 3 99;door 1;not 0 1;plan 0 0 0 0 0 0 0 0;");
        fraction("one tenth, eight times", x.luck(9, 0, 0), x.luck(9, 0, 1), 1, 100000000);
        fraction("three tenths, eight times", x.luck(7, 0, 0), x.luck(7, 0, 1), 6561, 100000000);
        fraction("a half, eight times", x.luck(5, 0, 0), x.luck(5, 0, 1), 1, 256);
        // the first that comes takes 4 on five LAYERS, each later one 6 on six wet ones
        x = town("priest 1 99;door 0 0 0 0 0;plan 0 0 0 0 0 0 0 0;");
        fraction("all eight", x.mean(10, 0), x.mean(10, 1), 46, 1);
        // 6 * 0.8 - 2 * (1 - 0.9^8) = 3.66093442
        fraction("by one of ten", x.mean(1, 0), x.mean(1, 1), 183046721, 50000000);
    }

    // ---- 1: VISITORS, DOORS

    /** VISITORS 0 on, by order, each of a KIND (0 plain, 1 priest, 2 miser, 3 spy). */
    private static void visitorsByOrder() {
        DoorPaints x = new DoorPaints();
        due("none", x.rule(0), 0);
        due("VISITOR 0 of none", x.visitor(0, 0), BAD);
        StringBuilder text = new StringBuilder();
        for (int n = 1; n <= 4; n++) {
            text.append(KINDS[n - 1]).append(" 0 0;");
            x = town(text.toString());
            due("VISITORS", x.rule(0), n);
            for (int v = 0; v < n; v++) {
                due("KIND of " + v, x.visitor(v, 0), v);
            }
            due("one behind the last", x.visitor(n, 0), BAD);
            due("one ahead of the first", x.visitor(-1, 0), BAD);
        }
    }

    /** 4 at most. */
    private static void fifthVisitor() {
        for (String kind : KINDS) {
            town("spy 0 0;miser 0 0;priest 0 0;" + kind + " 0 0;");
            faulty("spy 0 0;miser 0 0;priest 0 0;plain 0 0;" + kind + " 0 0;", 5, 39);
        }
    }

    /** COLOUR (0 to 5), PAINT (0 to 99). */
    private static void colourAndPaint() {
        for (String kind : KINDS) {
            for (int colour = 0; colour <= 5; colour++) {
                DoorPaints x = town(kind + " " + colour + " " + 99 * (colour & 1) + ";");
                due("COLOUR", x.visitor(0, 1), colour);
                due("PAINT", x.visitor(0, 2), 99 * (colour & 1));
            }
            faulty(kind + " 6 0;", 3, kind.length() + 1);
            faulty(kind + " 99 0;", 3, kind.length() + 1);
            faulty(kind + " 5 100;", 1, kind.length() + 3);
        }
    }

    /** SLEEVE: none at first; DOORS: no LAYERS, dry, nothing that they ought not to SHOW, at first. */
    private static void atFirst() {
        DoorPaints x = town("plain 5 9;door;door 5;");
        due("SLEEVE", x.visitor(0, 3), 0);
        check.layers(x, 0);
        for (int d = 0; d < 2; d++) {
            due("dry", x.door(d, 3), 0);
            due("ought not", x.door(d, 2), 0);
        }
        due("none is wet", x.rule(3), 0);
        due("none is WRONG", x.rule(4), 0);
        due("no ACTS", x.rule(2), 0);
        due("nothing is SEEN", x.count(1), 0);
    }

    /** DOORS 0 on, by order. */
    private static void doorsByOrder() {
        due("DOOR 0 of none", new DoorPaints().door(0, 0), BAD);
        StringBuilder text = new StringBuilder();
        for (int n = 1; n <= 4; n++) {
            text.append("door ").append(n).append(";");
            DoorPaints x = town(text.toString());
            due("DOORS", x.rule(1), n);
            for (int d = 0; d < n; d++) {
                due("DOOR " + d, x.door(d, 1), d + 1);
            }
            due("one behind the last", x.door(n, 0), BAD);
            due("one ahead of the first", x.door(-1, 0), BAD);
        }
    }

    /** 4 at most. */
    private static void fifthDoor() {
        town("door;door;door;door;");
        faulty("door;door;door;door;door;", 5, 20);
        faulty("door;door;door;door; door", 5, 21);
    }

    /** LAYERS (6 at most, from the lowest one). */
    private static void sixLayers() {
        int[] all = {5, 0, 4, 1, 3, 2};
        StringBuilder text = new StringBuilder("door");
        for (int n = 0; n <= 6; n++) {
            DoorPaints x = town(text + ";");
            check.layers(x, 0, java.util.Arrays.copyOf(all, n));
            due("LAYERS in all", x.count(0), n);
            if (n < 6) {
                text.append(" ").append(all[n]);
            }
        }
        faulty(text + " 0;", 5, 17);
        due("24 in all", town("door 1 1 1 1 1 1;".repeat(4)).count(0), 24);
    }

    /** A DOOR SHOWS its top LAYER. */
    private static void showsTheTop() {
        DoorPaints x = town("door 1;door 1 2;door 1 2 3 4 5 0;door;");
        int[] top = {1, 2, 0, NONE};
        for (int d = 0; d < 4; d++) {
            due("DOOR " + d + " SHOWS", x.door(d, 1), top[d]);
        }
    }

    // ---- 1: THE PLAN, THE TAPE

    /** THE PLAN: ACTS (8 at most). */
    private static void eightActs() {
        StringBuilder text = new StringBuilder("plan");
        for (int n = 0; n <= 8; n++) {
            DoorPaints x = town(text + ";");
            due("ACTS", x.rule(2), n);
            for (int i = 0; i < n; i++) {
                due("ACT " + i, x.plan(i), 90 + i % 3);
            }
            due("one behind the last", x.plan(n), BAD);
            text.append(" ").append(90 + n % 3);
        }
        faulty(text + ";", 5, 4 + 8 * 3 + 1);
    }

    /** 10 times a VISITOR and a DOOR; 90, 91, 92; tens 0 to 3 with ones 0 to 3. */
    private static void whichNumbersAreActs() {
        for (int act = -120; act <= 120; act++) {
            boolean visit = act >= 0 && act <= 33 && act % 10 <= 3;
            boolean is = visit || act >= 90 && act <= 92;
            DoorPaints x = town(FOUR_AND_FOUR);
            due("plans " + act, x.plans(act), is ? 1 : BAD);
            due("ACTS behind " + act, x.rule(2), is ? 1 : 0);
            due("ACT 0 behind " + act, x.plan(0), is ? act : BAD);
            if (act >= 0 && act <= 99) {
                String plan = FOUR_AND_FOUR + "plan " + act + ";";
                if (is) {
                    due("ACT told", town(plan).plan(0), act);
                } else {
                    faulty(plan, 3, FOUR_AND_FOUR.length() + 5);
                }
            }
        }
        DoorPaints x = town(FOUR_AND_FOUR);
        int[] far = {LOWEST, LOWEST + 1, HIGHEST, HIGHEST - 1, 256, 256 + 90, 65536, 65536 + 90, -65536, 1 << 30, -(1 << 30), 1000, 900};
        for (int act : far) {
            due("plans " + act, x.plans(act), BAD);
        }
        due("none was taken", x.rule(2), 0);
    }

    /** THE TAPE has 160 bytes. */
    private static void hundredAndSixtyBytes() {
        DoorPaints x = new DoorPaints();
        for (int i = 1; i <= 160; i++) {
            due("byte " + i, x.feed('a'), i);
        }
        due("byte 161", x.feed('a'), FULL);
        due("bytes", x.count(3), 160);
        due("one NAME of 160", x.text(), -10);
        due("its FAULT", x.fault(), 2);
    }

    /** Places from 0, to 159; the end is at the length. */
    private static void wholeTape() {
        town("door 1" + blanks(153) + ";");
        town(blanks(155) + "door;");
        faulty("door 1" + blanks(153) + "A", 1, 159);
        faulty("door 1" + blanks(154), 2, 160);
        faulty("door 1" + blanks(151) + "123", 1, 157);
        faulty(blanks(159) + ";", 2, 159);
        faulty("plan 0;" + blanks(153), 6, 160);
        due("blanks alone", check.say(new DoorPaints(), blanks(160)), 0);
        DoorPaints x = new DoorPaints();
        for (char c : ("door" + blanks(156)).toCharArray()) {
            x.feed(c);
        }
        due("no room for the end of the line", x.feed(';'), FULL);
        due("it was not taken", x.text(), -170);
        due("the TAPE is empty then", x.feed(';'), 1);
    }

    /** TOKENS begin by a .. z, 0 .. 9 or ;, blanks (32) go between; no other byte begins one. */
    private static void everyByteFirst() {
        for (int c = 0; c <= 127; c++) {
            String text = String.valueOf((char) c);
            boolean token = c >= 'a' && c <= 'z' || c >= '0' && c <= '9' || c == ';';
            if (c == 32) {
                due("a blank alone", check.say(new DoorPaints(), text), 0);
            } else {
                faulty(text, token ? 2 : 1, 0);
            }
        }
    }

    private static void everyByteAsNumber() {
        for (int c = 0; c <= 127; c++) {
            String text = "door " + (char) c;
            if (c >= '0' && c <= '5') {
                due("LAYER", town(text + ";").door(0, 10), c - '0');
            } else if (c >= '6' && c <= '9') {
                faulty(text + ";", 3, 5);
            } else if (c == ';') {
                town(text);
            } else if (c == 32) {
                town(text + ";");
            } else {
                faulty(text + ";", c >= 'a' && c <= 'z' ? 2 : 1, 5);
            }
        }
    }

    /** TOKENS, each as long as may be. */
    private static void asLongAsMayBe() {
        faulty("doordoor;", 2, 0);
        faulty("door1 23;", 3, 6);
        faulty("plain 1 2 3;", 2, 10);
        faulty("plain 12;", 3, 6);
        faulty("plain 012;", 1, 6);
        town("plain0 12;door0 1;not0 1;plan0 90;");
        town("plain 0 1;door;plan 00;");
        faulty("door;;", 2, 5);
    }

    private static void namesThatBeginLines() {
        String[] names = {"plain", "priest", "miser", "spy", "door", "not", "plan"};
        for (String name : names) {
            faulty(name + "x 0 0;", 2, 0);
            faulty("x" + name + " 0 0;", 2, 0);
            if (!name.equals("plain")) {
                faulty(name.substring(0, name.length() - 1) + " 0 0;", 2, 0);
            }
            faulty(name.substring(1) + " 0 0;", 2, 0);
            faulty("z" + name.substring(1) + " 0 0;", 2, 0);
            faulty(name.substring(0, name.length() - 1) + "z 0 0;", 2, 0);
            faulty(name.toUpperCase() + " 0 0;", 1, 0);
            faulty(name.substring(0, 2) + "z" + name.substring(3) + " 0 0;", 2, 0);
        }
        // plain but for its last letter is a line of its own
        town("plan 90;");
    }

    /** NUMBERS (1 or 2 figures); one that is too long: its first byte. */
    private static void figures() {
        due("one figure", town("plain 0 7;").visitor(0, 2), 7);
        due("two figures", town("plain 0 70;").visitor(0, 2), 70);
        due("two figures, the first 0", town("plain 00 07;").visitor(0, 2), 7);
        due("99", town("plain 05 99;").visitor(0, 2), 99);
        faulty("plain 0 070;", 1, 8);
        faulty("plain 0 000;", 1, 8);
        faulty("plain 0 99999999999;", 1, 8);
        faulty("plain 000 0;", 1, 6);
        faulty("door 000", 1, 5);
        faulty("plan 000;", 1, 5);
        faulty("not 000 0;", 1, 4);
        faulty("not 0 000;", 1, 6);
        faulty("plain 0 0 000;", 1, 10);
        faulty("000", 1, 0);
        faulty("door;000", 1, 5);
    }

    /** Blanks (32) between: none, one, many; no other byte is one. */
    private static void blanks() {
        town("plain 1 2;door 1;");
        town("  plain  1  2  ;  door  1  ;  ");
        due("LAYERS", town("door 1 2;").door(0, 0), 2);
        faulty("door\t1;", 1, 4);
        faulty("door 1\n;", 1, 6);
        faulty("door 1;\n", 1, 7);
        faulty("\0door 1;", 1, 0);
        faulty("do or;", 2, 0);
    }

    /** A text that ends too soon: the end can not stand there, its place is the length. */
    private static void cutShort() {
        due("an empty text", check.say(new DoorPaints(), ""), 0);
        prefixes("plain 1 2;", 5);
        prefixes("priest 1 2;", 6);
        prefixes("miser 1 2;", 5);
        prefixes("spy 1 2;", 3);
        prefixes("door 1 2;", 4);
        prefixes("plan 90 91;", 4);
        faulty("not", 2, 3);
        faulty("not ", 2, 4);
        faulty("not 0", 2, 5);
        faulty("not 0 ", 2, 6);
        faulty("not 0 1", 2, 7);
        faulty("not 0 1 ", 2, 8);
    }

    /** All that is shorter than a line: within its NAME it begins no line, behind that the end is met. */
    private static void prefixes(String line, int nameLength) {
        for (int n = 1; n < line.length(); n++) {
            String cut = line.substring(0, n);
            boolean halfAct = cut.endsWith("9");
            if (n < nameLength) {
                faulty(cut, 2, 0);
            } else if (halfAct) {
                faulty(cut, 3, n - 1);
            } else {
                faulty(cut, 2, n);
            }
        }
        town(line);
    }

    /** A TOKEN that can not stand there. */
    private static void wrongTokens() {
        String[] numbers = {"plain", "priest", "miser", "spy", "not"};
        for (String name : numbers) {
            int n = name.length() + 1;
            faulty(name + " ;", 2, n);
            faulty(name + " x 1;", 2, n);
            faulty(name + " plain 1;", 2, n);
            faulty(name + " 1;", 2, n + 1);
            faulty(name + " 1 x;", 2, n + 2);
            faulty(name + " 1 1 1;", 2, n + 4);
            faulty(name + " 1 1 x;", 2, n + 4);
            faulty(name + " 1 1 plain 1 1;", 2, n + 4);
        }
        for (String name : new String[] {"door", "plan"}) {
            faulty(name + " x;", 2, 5);
            faulty(name + " 1 x;", 2, 7);
            faulty(name + " door;", 2, 5);
            faulty(name + " 1 1 plan;", 2, 9);
        }
        faulty("1;", 2, 0);
        faulty("door;1;", 2, 5);
        faulty("door;x;", 2, 5);
        faulty("door; ;", 2, 6);
        faulty("doors", 2, 0);
    }

    /** The first met as it is read: a TOKEN is read when the one before has been taken. */
    private static void tokenByToken() {
        faulty("doors A", 2, 0);
        faulty("plain 6 A", 3, 6);
        faulty("plain 6 100;", 3, 6);
        faulty("plain A 6", 1, 6);
        faulty("plain 1 A", 1, 8);
        faulty("plain x 6 A", 2, 6);
        faulty("door 6 A", 3, 5);
        faulty("not 4 6;", 3, 4);
        faulty("not 4 A", 3, 4);
        faulty("plan 93 A", 3, 5);
        faulty("plan;plan 93 A", 4, 5);
        faulty("not 0 1;not 0 1 A", 4, 14);
        faulty("not 0 1;not 0 1", 4, 14);
        faulty("door;door;door;door;door 9 A", 5, 20);
        faulty("door 1 1 1 1 1 1 1 A", 5, 17);
        faulty("plan 90 90 90 90 90 90 90 90 90", 5, 29);
        faulty("not 3 1;A", 1, 8);
        faulty("plan 33;x", 2, 8);
    }

    /** A NUMBER out of its bounds. */
    private static void outOfBounds() {
        for (int n = 0; n <= 99; n++) {
            if (n <= 5) {
                due("LAYER", town("door " + n + ";").door(0, 1), n);
                due("ought not", town("door;not 0 " + n + ";").door(0, 2), 1 << n);
                due("COLOUR", town("spy " + n + " 0;").visitor(0, 1), n);
            } else {
                faulty("door " + n + ";", 3, 5);
                faulty("door 0 0 0 0 0 " + n + ";", 3, 15);
                faulty("door;not 0 " + n + ";", 3, 11);
                faulty("spy " + n + " 0;", 3, 4);
            }
            if (n <= 3) {
                due("its DOOR", town("door;door;door;door;not " + n + " 0;").door(n, 2), 1);
            } else {
                faulty("not " + n + " 0;", 3, 4);
            }
            due("PAINT", town("spy 0 " + n + ";").visitor(0, 2), n);
        }
        faulty("door 0 0 0 0 0 0 6;", 3, 17);
        faulty("plan 90 90 90 90 90 90 90 90 93;", 3, 29);
    }

    /** plan for the second time (its NAME); a COLOUR that the DOOR ought not to SHOW already (it). */
    private static void secondTime() {
        faulty("plan;plan;", 4, 5);
        faulty("plan 90;  plan 90;", 4, 10);
        town("door;door;not 0 1;not 1 1;not 0 2;");
        faulty("door;door;not 0 1;not 1 1;not 0 1;", 4, 32);
        faulty("door;not 0 5;not 0 05;", 4, 19);
        faulty("not 3 0;not 3 0;", 4, 14);
        due("all six", town("door;not 0 0;not 0 1;not 0 2;not 0 3;not 0 4;not 0 5;").door(0, 2), 63);
        DoorPaints x = town("door;not 0 1;plan 90;");
        due("the next text may say them again", check.say(x, "plan 91;not 0 1;door;"), 3);
    }

    /** The 5th VISITOR, the 5th door (its NAME); a 7th LAYER, a 9th ACT (it). */
    private static void tooMany() {
        faulty("plain 0 0;plain 0 0;plain 0 0;plain 0 0; spy", 5, 41);
        faulty("door;door;door;door;  door;", 5, 22);
        faulty("door 0 0 0 0 0 0  0;", 5, 18);
        faulty("door 0 0 0 0 0 0 00;", 5, 17);
        faulty("plan 90 90 90 90 90 90 90 90  92;", 5, 30);
        faulty("plain 0 0;door;plan 0 0 0 0 0 0 0 0 0;", 5, 36);
        faulty("door;door 0 0 0 0 0 0 0;", 5, 22);
        town("door 0 0 0 0 0 0;door 0 0 0 0 0 0;plan 90 90 90 90 90 90 90 90;");
    }

    /** Behind all (the length): a VISITOR, a DOOR that there is not. */
    private static void notThere() {
        String[] people = {"", "plain 0 0;", "plain 0 0;spy 0 0;", "plain 0 0;spy 0 0;spy 0 0;", "plain 0 0;spy 0 0;spy 0 0;spy 0 0;"};
        String[] gates = {"", "door;", "door;door;", "door;door;door;", "door;door;door;door;"};
        for (int n = 0; n <= 4; n++) {
            for (int v = 0; v < 4; v++) {
                String text = people[n] + gates[4] + "plan " + 10 * v + ";";
                if (v < n) {
                    town(text);
                } else {
                    faulty(text, 6, text.length());
                }
            }
            for (int d = 0; d < 4; d++) {
                String act = people[4] + gates[n] + "plan " + d + ";";
                String not = gates[n] + "not " + d + " 5;";
                if (d < n) {
                    town(act);
                    town(not);
                } else {
                    faulty(act, 6, act.length());
                    faulty(not, 6, not.length());
                }
            }
        }
        town("plan 11;not 1 0;door;door;spy 0 0;spy 0 0;");
        faulty("plan 90 0 91;  ", 6, 15);
        faulty("plan 93;not 3 0;", 3, 5);
    }

    /** A text that is taken tells all, in place of what there was; nothing is SEEN; IMAGES are gone. */
    private static void inPlace() {
        DoorPaints x = town("plain 1 9;plain 2 9;door;door 3;not 0 1;plan 0 90;");
        x.visit(0, 0);
        x.visit(1, 0);
        x.see(0, 0, 3);
        x.keep(0);
        x.keep(1);
        due("told", check.say(x, "plain 1 9;door 4;"), 2);
        due("VISITORS", x.rule(0), 1);
        due("DOORS", x.rule(1), 1);
        due("ACTS", x.rule(2), 0);
        due("wet", x.rule(3), 0);
        due("PAINT", x.rule(5), 9);
        due("SLEEVE", x.visitor(0, 3), 0);
        due("ought not", x.door(0, 2), 0);
        check.layers(x, 0, 4);
        due("SEEN", x.count(1), 0);
        due("IMAGES", x.count(2), 0);
        due("IMAGE 0", x.back(0), STATE);
        due("IMAGE 1", x.back(1), STATE);
        due("an IMAGE anew", x.keep(1), 0);
        due("an empty text is taken, too", check.say(x, ""), 0);
        due("no VISITORS", x.rule(0), 0);
        due("no DOORS", x.rule(1), 0);
        due("no IMAGES", x.count(2), 0);
    }

    // ---- 2: VISITS

    private static String doorOf(int layers) {
        return "door" + " 1".repeat(layers) + ";";
    }

    /** plain, spy: 1 and a third of how many LAYERS there are (down); priest: twice that; miser: nothing. */
    private static void paintOfVisits() {
        int[] once = {1, 1, 1, 2, 2, 2, 3};
        for (int n = 0; n <= 6; n++) {
            DoorPaints x = town("plain 0 9;priest 0 9;miser 0 9;spy 0 9;" + doorOf(n));
            int[] want = {once[n], 2 * once[n], 0, once[n]};
            for (int v = 0; v < 4; v++) {
                due("VISITOR " + v + " at " + n + " LAYERS", x.uses(v, 0), want[v]);
            }
        }
    }

    /** He who has not so much does not visit (STATE): one less, just as much. */
    private static void notSoMuch() {
        int[] once = {1, 1, 1, 2, 2, 2};
        for (int n = 0; n <= 5; n++) {
            for (int kind = 0; kind < 4; kind++) {
                int cost = kind == 2 ? 0 : kind == 1 ? 2 * once[n] : once[n];
                DoorPaints x = town(KINDS[kind] + " 3 " + cost + ";" + doorOf(n));
                int shown = kind == 2 ? n == 0 ? NONE : 1 : 3;
                due(KINDS[kind] + " with just as much at " + n, x.visit(0, 0), shown);
                due("all is taken", x.visitor(0, 2), 0);
                due("LAYERS", x.count(0), kind == 2 ? n : n + 1);
                if (cost > 0) {
                    x = town(KINDS[kind] + " 3 " + (cost - 1) + ";" + doorOf(n));
                    due(KINDS[kind] + " with one less at " + n, x.visit(0, 0), STATE);
                    due("nothing is taken", x.visitor(0, 2), cost - 1);
                    due("LAYERS", x.count(0), n);
                    due("dry", x.rule(3), 0);
                }
            }
        }
    }

    /** Has a DOOR 6 LAYERS and is dry, nobody but a miser visits (FULL). */
    private static void sixAndDry() {
        int[] answers = {FULL, FULL, 1, FULL};
        for (int kind = 0; kind < 4; kind++) {
            DoorPaints x = town(KINDS[kind] + " 4 99;" + doorOf(6));
            due(KINDS[kind] + " at six dry ones", x.visit(0, 0), answers[kind]);
            due("nothing is taken", x.visitor(0, 2), 99);
            due("dry", x.rule(3), 0);
            check.layers(x, 0, 1, 1, 1, 1, 1, 1);
            x = town("plain 2 99;" + KINDS[kind] + " 4 99;" + doorOf(5));
            due("the sixth", x.visit(0, 0), 2);
            int brush = kind == 3 ? 2 : 4;
            due(KINDS[kind] + " at six wet ones", x.visit(1, 0), kind == 2 ? 2 : (2 + brush) % 6);
            due("six still", x.door(0, 0), 6);
            x.sky(0);
            due(KINDS[kind] + " when it is dry", x.visit(1, 0), kind == 2 ? 2 : FULL);
        }
    }

    /** BRUSH is his COLOUR, a spy's that of VISITOR 0. */
    private static void brushes() {
        DoorPaints x = town("miser 5 9;plain 1 9;priest 2 9;spy 3 9;door;");
        int[] want = {5, 1, 2, 5};
        for (int v = 0; v < 4; v++) {
            due("BRUSH of " + v, x.visitor(v, 4), want[v]);
        }
        due("a spy paints with a miser's", x.visit(3, 0), 5);
        due("a spy who is VISITOR 0", town("spy 4 9;door;").visit(0, 0), 4);
        x = town("spy 4 9;spy 1 9;door;");
        due("a spy behind a spy", x.visit(1, 0), 4);
    }

    /** Is it wet: the SLEEVE is marked by what it SHOWS, then the top becomes both, summed modulo 6; it is wet then. */
    private static void wetMixes() {
        for (int under = 0; under < 6; under++) {
            for (int brush = 0; brush < 6; brush++) {
                DoorPaints x = town("plain " + under + " 9;plain " + brush + " 9;door 3;");
                due("on the dry one", x.visit(0, 0), under);
                due("no mark of a dry one", x.visitor(0, 3), 0);
                due(under + " and " + brush, x.visit(1, 0), (under + brush) % 6);
                due("marked by what it showed", x.visitor(1, 3), 1 << under);
                due("wet", x.rule(3), 1);
                check.layers(x, 0, 3, (under + brush) % 6);
            }
        }
    }

    /** A miser's SLEEVE is marked likewise, the DOOR stays as it is. */
    private static void miserOnWet() {
        for (int colour = 0; colour < 6; colour++) {
            DoorPaints x = town("plain " + colour + " 9;miser 5 0;door 3;");
            due("dry", x.visit(1, 0), 3);
            due("no mark of a dry one", x.visitor(1, 3), 0);
            due("dry still", x.door(0, 3), 0);
            x.visit(0, 0);
            due("wet", x.visit(1, 0), colour);
            due("marked", x.visitor(1, 3), 1 << colour);
            due("wet still", x.door(0, 3), 1);
            check.layers(x, 0, 3, colour);
        }
        DoorPaints x = town("miser 5 0;door;");
        due("bare", x.visit(0, 0), NONE);
        due("bare and dry still", x.door(0, 3), 0);
        due("no mark", x.visitor(0, 3), 0);
    }

    /** A SLEEVE with marks of COLOURS: they gather, all six of them. */
    private static void sleeveGathers() {
        DoorPaints x = town("plain 1 20;miser 0 0;door 1 1;");
        int marks = 0;
        for (int i = 1; i <= 7; i++) {
            due("shows", x.visit(0, 0), i % 6);
            x.visit(1, 0);
            marks |= 1 << i % 6;
            due("marks", x.visitor(1, 3), marks);
        }
    }

    // ---- 2: HOUR, RAIN, SUN

    /** An HOUR: all DOORS are dry. */
    private static void hour() {
        DoorPaints x = town("plain 0 9;door;door 0;door 1;door 2;");
        x.visit(0, 0);
        x.visit(0, 1);
        x.visit(0, 3);
        due("wet", x.rule(3), 11);
        due("LAYERS", x.sky(0), 6);
        due("dry", x.rule(3), 0);
        check.layers(x, 1, 0, 0);
        due("again", x.sky(0), 6);
        due("no DOORS", new DoorPaints().sky(0), 0);
    }

    /** RAIN: the three top ones (all, if there are fewer) become one: their sum modulo 6. */
    private static void rainByHeight() {
        int[][] ahead = {{}, {5}, {5, 5}, {5, 4, 3}, {5, 4, 3, 2}, {5, 4, 3, 2, 1}, {5, 4, 3, 5, 5, 5}};
        int[][] behind = {{}, {5}, {4}, {0}, {5, 3}, {5, 4, 0}, {5, 4, 3, 3}};
        for (int n = 0; n <= 6; n++) {
            StringBuilder text = new StringBuilder("door");
            for (int layer : ahead[n]) {
                text.append(" ").append(layer);
            }
            DoorPaints x = town(text + ";");
            due("LAYERS behind RAIN on " + n, x.sky(1), behind[n].length);
            check.layers(x, 0, behind[n]);
            due("wet", x.door(0, 3), n == 0 ? 0 : 1);
        }
    }

    /** Of each DOOR that has LAYERS: it is wet. */
    private static void rainWets() {
        DoorPaints x = town("plain 1 9;door;door 2;door 3;door 4 4;");
        x.visit(0, 2);
        due("LAYERS", x.sky(1), 3);
        due("a bare one is dry", x.rule(3), 14);
        check.layers(x, 2, 4);
        due("on wet paint", x.visit(0, 1), 3);
        due("again", x.sky(1), 3);
        check.layers(x, 3, 2);
        due("no DOORS", new DoorPaints().sky(1), 0);
    }

    /** SUN: top LAYERS that are red (0) go, as long as one is on top; all are dry. */
    private static void sunTakesRed() {
        String[] doors = {"", " 0", " 0 0 0 0 0 0", " 1", " 0 1", " 1 0", " 0 1 0 0", " 1 0 0 0 0 0", " 0 0 0 0 0 5"};
        int[][] behind = {{}, {}, {}, {1}, {0, 1}, {1}, {0, 1}, {1}, {0, 0, 0, 0, 0, 5}};
        for (int i = 0; i < doors.length; i++) {
            DoorPaints x = town("door" + doors[i] + ";");
            due("LAYERS behind SUN on" + doors[i], x.sky(2), behind[i].length);
            check.layers(x, 0, behind[i]);
        }
        DoorPaints x = town("plain 1 9;plain 0 9;door;door 0;door 2;");
        x.visit(0, 0);
        x.visit(1, 1);
        due("wet", x.rule(3), 3);
        due("LAYERS", x.sky(2), 2);
        due("all are dry", x.rule(3), 0);
        check.layers(x, 1);
        due("no DOORS", new DoorPaints().sky(2), 0);
    }

    /** WRONG is a DOOR that SHOWS what it ought not; a bare one never is. */
    private static void wrongIsWhatShows() {
        DoorPaints x = town("door 1 2;door 2 1;door;door 0;not 0 1;not 1 1;not 3 0;");
        due("what is under the top does not count", x.rule(4), 10);
        for (int colour = 0; colour < 6; colour++) {
            x.ought(2, colour, true);
        }
        due("a bare one", x.rule(4), 10);
        x.ought(0, 2, true);
        due("the top", x.rule(4), 11);
        x.scrape(3);
        due("bare now", x.rule(4), 3);
    }

    // ---- 2: SEEN, SHEETS

    /** SEEN (6). */
    private static void sixSeen() {
        DoorPaints x = town("door 1;");
        for (int i = 1; i <= 6; i++) {
            due("as SEEN", x.orders(0), 1);
            due("SEEN", x.see(0, 0, 1), i);
        }
        due("a 7th", x.see(0, 0, 2), FULL);
        due("six", x.count(1), 6);
        due("the 7th does not count", x.orders(0), 1);
        x.forget(5);
        due("room for one", x.see(0, 0, 2), 6);
        due("the 6th counts", x.orders(0), 0);
    }

    /** A LAYER (0 the lowest) of a DOOR is of a COLOUR, or there is none (NONE). */
    private static void seenByHeight() {
        int[] all = {5, 0, 4, 1, 3, 2};
        for (int n = 0; n <= 6; n++) {
            StringBuilder text = new StringBuilder("door");
            for (int i = 0; i < n; i++) {
                text.append(" ").append(all[i]);
            }
            DoorPaints x = town(text + ";");
            for (int i = 0; i < 6; i++) {
                for (int colour = -1; colour < 6; colour++) {
                    int said = colour < 0 ? NONE : colour;
                    x.see(0, i, said);
                    due("LAYER " + i + " of " + n + " is " + said, x.orders(0), said == (i < n ? all[i] : NONE) ? 1 : 0);
                    x.forget(0);
                }
            }
        }
    }

    /** Behind THE PLAN (from now on; ACTS that can not be are passed over). */
    private static void passedOver() {
        DoorPaints x = town("plain 1 1;plain 2 0;plain 3 9;door;plan 10 0 20;");
        x.see(0, 0, 4);
        x.see(0, 1, NONE);
        due("1 and 3, without 2", x.pots(0), 1);
        due("he who can not visit may have gone with any", x.pots(1), 7);
        x.visit(0, 0);
        due("from now on: 3 on wet 1", x.pots(2), 4);
        x.sky(0);
        due("from now on: 3 above dry 1", x.pots(2), 0);
    }

    /** SHEETS 0 to 3: BYTES (0), SHORTS (1), INTS (2) with 0 to 40 CELLS, or nothing (at first). */
    private static void sheetsAndCells() {
        for (int k = 0; k < 4; k++) {
            for (int lane = 0; lane < 3; lane++) {
                for (int n : new int[] {0, 1, 2, 39, 40}) {
                    DoorPaints x = new DoorPaints();
                    due("nothing at first", x.lay(k, 0, 0), -11);
                    due("a new row", x.sheet(k, lane, n), 1);
                    due("its last CELL", x.lay(k, n - 1, 0), n == 0 ? -12 : 1);
                    due("one behind it", x.lay(k, n, 0), -12);
                    due("CELLS of SHEET 0", x.count(4), k == 0 ? n : NONE);
                }
                DoorPaints x = new DoorPaints();
                due("41 CELLS", x.sheet(k, lane, 41), BAD);
                due("nothing still", x.lay(k, 0, 0), -11);
            }
        }
    }

    /** A FAULT is what the machine finds: 1 NULL (nothing), 2 INDEX, 3 CAST (another lane), 4 SIZE (below 0). */
    private static void machineFaults() {
        for (int lane = 0; lane < 3; lane++) {
            for (int as = 0; as < 3; as++) {
                DoorPaints x = town("miser 0 0;door;");
                due("of nothing", x.read(1, as, 0, 1), 0);
                due("NULL", x.torn(), 1);
                due("below 0", x.sheet(1, lane, -1), -14);
                due("of nothing still", x.read(1, as, 0, 1), 0);
                due("NULL still", x.torn(), 1);
                x.sheet(1, lane, 2);
                due("of a row", x.read(1, as, 0, 1), as == lane ? 1 : 0);
                due("CAST if it is another lane", x.torn(), as == lane ? 0 : 3);
                due("beyond the row", x.read(1, as, 1, 1), 0);
                due("INDEX, CAST ahead of it", x.torn(), as == lane ? 2 : 3);
                x.sheet(1, lane, 0);
                due("of a row without CELLS", x.read(1, as, 0, 1), 0);
                due("INDEX, CAST ahead of it", x.torn(), as == lane ? 2 : 3);
            }
        }
    }
}
