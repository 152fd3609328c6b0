import java.util.Random;

/** Long runs of calls, by chance but always the same, on the class and on Model: all answers must be alike. */
public final class ModelTest {
    private static final int OBJECTS = 2000;
    private static final int[] EXTREMES = {Integer.MIN_VALUE, Integer.MAX_VALUE, -1, -2, -4, -5, 40, 41, 99, 100, 127, 128, 160, 255, 256, 65536, 1 << 30};
    private static final String[] WORDS = {"plain", "priest", "miser", "spy", "door", "not", "plan"};

    private final Check check = new Check();
    private final Random random;
    private DoorPaints x;
    private Model m;
    private int calls;
    private String trace;

    private ModelTest(long seed) {
        random = new Random(seed);
    }

    public static void main(String[] args) {
        ModelTest test = new ModelTest(20261117L);
        for (int i = 0; i < OBJECTS && !test.check.failed(); i++) {
            test.oneObject(i);
        }
        test.check.finish();
    }

    private void oneObject(int number) {
        x = new DoorPaints();
        m = new Model();
        calls = 0;
        trace = "object " + number;
        if (pick(10) > 0) {
            feedText(soundText());
        }
        // what an object answers behind its 512th call is free, and one turn may make several calls
        while (calls < 506 && !check.failed()) {
            if (pick(150) == 0) {
                String text = pick(3) == 0 ? soundText() : spoiled(soundText());
                feedText(pick(40) == 0 ? "" : text);
            }
            call();
        }
    }

    private int pick(int below) {
        return random.nextInt(below);
    }

    /** Mostly 0 to most, now and then anything. */
    private int arg(int most) {
        switch (pick(40)) {
            case 0: return EXTREMES[pick(EXTREMES.length)];
            case 1: return random.nextInt();
            case 2: return most + 1;
            case 3: return -1;
            default: return pick(most + 1);
        }
    }

    /** Mostly a VISITOR that there is. */
    private int who() {
        return pick(10) == 0 ? arg(3) : pick(Math.max(1, m.now.visitors.size()));
    }

    /** Mostly a DOOR that there is. */
    private int gate() {
        return pick(10) == 0 ? arg(3) : pick(Math.max(1, m.now.doors.size()));
    }

    /** A text without FAULTS, unless there are too many bytes for the tape. */
    private String soundText() {
        StringBuilder text = new StringBuilder();
        int visitors = pick(20) == 0 ? 0 : 1 + pick(4);
        int doors = pick(20) == 0 ? 0 : 1 + pick(4);
        for (int i = 0; i < visitors; i++) {
            text.append(WORDS[pick(4)]).append(blank()).append(pick(6)).append(' ').append(pick(3) == 0 ? pick(6) : pick(100)).append(';');
        }
        for (int i = 0; i < doors; i++) {
            text.append("door");
            int layers = pick(4) == 0 ? 6 : pick(5);
            for (int j = 0; j < layers; j++) {
                text.append(' ').append(pick(3) == 0 ? 0 : pick(6));
            }
            text.append(blank()).append(';').append(blank());
        }
        for (int bit = 0; bit < 6 * doors; bit++) {
            if (pick(5) == 0 && text.length() < 120) {
                text.append("not ").append(bit % doors).append(' ').append(bit / doors).append(";");
            }
        }
        if (pick(5) > 0) {
            text.append("plan");
            int acts = pick(9);
            for (int i = 0; i < acts && text.length() < 155; i++) {
                boolean sky = visitors == 0 || doors == 0 || pick(3) == 0;
                text.append(' ').append(sky ? 90 + pick(3) : 10 * pick(visitors) + pick(doors));
            }
            text.append(";");
        }
        return text.toString();
    }

    private String blank() {
        return pick(3) == 0 ? "  " : pick(2) == 0 ? " " : "";
    }

    private String spoiled(String sound) {
        StringBuilder text = new StringBuilder(sound);
        String signs = "0123456789 ;;azn~A\n/:`{";
        for (int i = 0; i <= pick(3) && text.length() > 0; i++) {
            int at = pick(text.length());
            switch (pick(5)) {
                case 0: text.deleteCharAt(at); break;
                case 1: text.insert(at, signs.charAt(pick(signs.length()))); break;
                case 2: text.setCharAt(at, signs.charAt(pick(signs.length()))); break;
                case 3: text.setLength(at); break;
                default: text.append(WORDS[pick(7)]).append(' ').append(pick(100)).append(' ').append(pick(100)).append(';'); break;
            }
        }
        return text.toString();
    }

    private void feedText(String text) {
        trace = "text '" + text + "'";
        if (pick(4) > 0) {
            say("end(0)", x.end(0), m.end(0));
        }
        for (int i = 0; i < text.length() && calls < 500; i++) {
            int c = text.charAt(i);
            say("feed(" + c + ")", x.feed(c), m.feed(c));
        }
        say("text()", x.text(), m.text());
        say("fault()", x.fault(), m.fault);
    }

    private void say(String call, long got, long want) {
        calls++;
        trace = trace.length() > 4000 ? trace.substring(2000) : trace;
        trace += " " + call;
        check.due(check.failed() ? call : got == want ? call : trace, got, want);
    }

    private void call() {
        int a = pick(3), b, c, d;
        if (a == 0) {
            changing();
            return;
        }
        switch (pick(27)) {
            case 0: b = arg(5); say("rule(" + b + ")", x.rule(b), m.rule(b)); break;
            case 1: b = who(); c = arg(4); say("visitor(" + b + ", " + c + ")", x.visitor(b, c), m.visitor(b, c)); break;
            case 2: b = gate(); c = arg(16); say("door(" + b + ", " + c + ")", x.door(b, c), m.door(b, c)); break;
            case 3: b = arg(8); say("plan(" + b + ")", x.plan(b), m.plan(b)); break;
            case 4: b = who(); c = gate(); say("uses(" + b + ", " + c + ")", x.uses(b, c), m.now.uses(b, c)); break;
            case 5: case 6: b = arg(4); say("runs(" + b + ")", x.runs(b), m.runs(b)); break;
            case 7: b = gate(); say("ahead(" + b + ")", x.ahead(b), m.ahead(b)); break;
            case 8: b = gate(); say("clears(" + b + ")", x.clears(b), m.clears(b)); break;
            case 9: b = pick(6) == 0 ? arg(3) : arg(2); c = pick(2) == 0 ? arg(1) : pick(2) == 0 ? 10 + pick(4) : arg(13);
                say("best(" + b + ", " + c + ")", x.best(b, c), m.best(b, c)); break;
            case 10: b = pick(2) == 0 ? 0 : pick(2) == 0 ? 10 + pick(4) : arg(13);
                say("few(" + b + ")", x.few(b), m.few(b)); break;
            case 11: b = who(); say("reads(" + b + ")", x.reads(b), m.reads(b)); break;
            case 12: case 13: b = who(); say("pots(" + b + ")", x.pots(b), m.pots(b)); break;
            case 14: case 15: say("rained()", x.rained(), m.rained()); break;
            case 16: case 17: b = arg(1); say("orders(" + b + ")", x.orders(b), m.orders(b)); break;
            case 18: case 19: b = arg(10); c = gate(); d = arg(1);
                say("luck(" + b + ", " + c + ", " + d + ")", x.luck(b, c, d), m.luck(b, c, d)); break;
            case 20: case 21: b = arg(10); c = arg(1); say("mean(" + b + ", " + c + ")", x.mean(b, c), m.mean(b, c)); break;
            case 22: case 23: b = random.nextInt(); c = arg(60); d = arg(1);
                say("drift(" + b + ", " + c + ", " + d + ")", x.drift(b, c, d), m.drift(b, c, d)); break;
            case 24: say("torn()", x.torn(), m.torn); break;
            case 25: say("fault()", x.fault(), m.fault); break;
            default: b = arg(4); say("count(" + b + ")", x.count(b), m.count(b)); break;
        }
    }

    private void changing() {
        int b, c, d, e;
        switch (pick(22)) {
            case 0: case 1: case 2: case 3: b = who(); c = gate(); say("visit(" + b + ", " + c + ")", x.visit(b, c), m.now.visit(b, c)); break;
            case 4: b = arg(2); say("sky(" + b + ")", x.sky(b), m.sky(b)); break;
            case 5: b = gate(); say("scrape(" + b + ")", x.scrape(b), m.scrape(b)); break;
            case 6: case 7: b = who(); c = arg(3); d = arg(c == 2 ? 99 : c == 3 ? 0 : c == 1 ? 5 : 3);
                say("alter(" + b + ", " + c + ", " + d + ")", x.alter(b, c, d), m.alter(b, c, d)); break;
            case 8: b = gate(); c = arg(5); boolean not = random.nextBoolean();
                say("ought(" + b + ", " + c + ", " + not + ")", x.ought(b, c, not), m.ought(b, c, not)); break;
            case 9: case 10: b = pick(2) == 0 ? 10 * who() + gate() : pick(2) == 0 ? 90 + arg(2) : arg(100); say("plans(" + b + ")", x.plans(b), m.plans(b)); break;
            case 11: b = arg(7); say("cut(" + b + ")", x.cut(b), m.cut(b)); break;
            case 12: case 13: seeSomething(); break;
            case 14: b = arg(5); say("forget(" + b + ")", x.forget(b), m.forget(b)); break;
            case 15: b = arg(1); say("keep(" + b + ")", x.keep(b), m.keep(b)); break;
            case 16: b = arg(1); say("back(" + b + ")", x.back(b), m.back(b)); break;
            case 17: b = arg(3); c = arg(2); d = arg(40); say("sheet(" + b + ", " + c + ", " + d + ")", x.sheet(b, c, d), m.sheet(b, c, d)); break;
            case 18: b = arg(3); c = arg(12); d = pick(6) == 0 ? random.nextInt() : pick(2) == 0 ? who() : 256 * arg(1) + arg(2);
                say("lay(" + b + ", " + c + ", " + d + ")", x.lay(b, c, d), m.lay(b, c, d)); break;
            case 19: case 20: b = arg(3); c = pick(3) > 0 ? m.lanes[b & 3] : arg(2); d = pick(2) == 0 ? 0 : arg(20); e = pick(2) == 0 ? arg(3) : arg(20);
                say("read(" + b + ", " + c + ", " + d + ", " + e + ")", x.read(b, c, d, e), m.read(b, c, d, e)); break;
            default: b = arg(127); c = pick(4) > 0 ? 0 : arg(3); say("feed(" + b + ")", x.feed(b), m.feed(b)); say("end(" + c + ")", x.end(c), m.end(c)); break;
        }
    }

    /** Mostly what is true behind THE PLAN, so that orders and pots find something. */
    private void seeSomething() {
        int d = gate(), i = arg(5), colour = pick(8) == 0 ? -4 : arg(5);
        if (pick(3) > 0 && m.now.d(d) && i >= 0 && i < 6) {
            colour = m.now.behind(m.now.plan).layer(d, i);
        }
        say("see(" + d + ", " + i + ", " + colour + ")", x.see(d, i, colour), m.see(d, i, colour));
    }
}
