/** The doors of a town, each painted by whoever visited last; ../shared/DOC.md says what each call answers. */
public final class DoorPaints {
    public static final int BAD = -1, STATE = -2, FULL = -3, NONE = -4;

    private static final int COLOURS = 6;
    private static final int KINDS = 4;
    private static final int MOST_VISITORS = 4;
    private static final int MOST_DOORS = 4;
    private static final int MOST_LAYERS = 6;
    private static final int MOST_PAINT = 99;
    private static final int MOST_ACTS = 8;
    private static final int MOST_SEEN = 6;
    private static final int MOST_BYTES = 160;
    private static final int MOST_CELLS = 40;
    private static final int MOST_PAIRS = 20;
    private static final int MOST_ROW = 3;
    private static final int MOST_ORDERED = 5;
    private static final int MOST_DRIFT = 60;
    private static final int IMAGES = 2;
    private static final int SHEETS = 4;
    private static final int LANES = 3;
    private static final int TEN = 10;

    private static final int PLAIN = 0, PRIEST = 1, MISER = 2, SPY = 3;
    private static final int HOUR = 90, RAIN = 91, SUN = 92;
    private static final int NULL_FAULT = 1, INDEX_FAULT = 2, CAST_FAULT = 3, SIZE_FAULT = 4;

    private final Reader reader;
    private final Tape tape;
    private final Told told;
    private final Told[] images;
    private final boolean[] kept;
    /** Every "what if" is played here, so that the town itself stays as it is and no call makes objects. */
    private final Town trial;
    private final Search search;
    private final int[] order;
    private final Sheet[] sheets;
    private int latestFault;
    private int latestTear;
    private int ordersFound;
    private int lastsFound;

    public DoorPaints() {
        reader = new Reader();
        tape = reader.from;
        told = new Told();
        images = new Told[IMAGES];
        for (int k = 0; k < IMAGES; k++) {
            images[k] = new Told();
        }
        kept = new boolean[IMAGES];
        trial = new Town();
        search = new Search();
        order = new int[MOST_ORDERED];
        sheets = new Sheet[SHEETS];
        for (int k = 0; k < SHEETS; k++) {
            sheets[k] = new Sheet();
        }
    }

    // ---- the text

    public int feed(int c) {
        if (c < 0 || c > 127) {
            return BAD;
        }
        return tape.append(c) ? tape.length : FULL;
    }

    public int end(int n) {
        if (n < 0 || n > tape.length) {
            return BAD;
        }
        int had = tape.length;
        tape.length = n;
        return had;
    }

    public int text() {
        int answer = reader.readAll();
        tape.length = 0;
        latestFault = reader.found;
        if (latestFault == 0) {
            told.become(reader.draft);
            for (int k = 0; k < IMAGES; k++) {
                kept[k] = false;
            }
        }
        return answer;
    }

    public int fault() {
        return latestFault;
    }

    public int rule(int what) {
        switch (what) {
            case 0: return told.town.visitorCount;
            case 1: return told.town.doorCount;
            case 2: return told.actCount;
            case 3: return told.town.wetBits();
            case 4: return told.town.wrongBits();
            case 5: return told.town.allPaint();
            default: return BAD;
        }
    }

    public int visitor(int v, int what) {
        if (!told.town.hasVisitor(v)) {
            return BAD;
        }
        Visitor asked = told.town.visitors[v];
        switch (what) {
            case 0: return asked.kind;
            case 1: return asked.colour;
            case 2: return asked.paint;
            case 3: return asked.sleeve;
            case 4: return told.town.brushOf(v);
            default: return BAD;
        }
    }

    public int door(int d, int what) {
        if (!told.town.hasDoor(d)) {
            return BAD;
        }
        Door asked = told.town.doors[d];
        if (what >= TEN && what < TEN + MOST_LAYERS) {
            return asked.layerAt(what - TEN);
        }
        switch (what) {
            case 0: return asked.height;
            case 1: return asked.shown();
            case 2: return asked.forbidden;
            case 3: return asked.wet ? 1 : 0;
            default: return BAD;
        }
    }

    public int plan(int i) {
        return i >= 0 && i < told.actCount ? told.acts[i] : BAD;
    }

    // ---- what is changed

    public int uses(int v, int d) {
        return told.town.costOf(v, d);
    }

    public int visit(int v, int d) {
        return told.town.receive(v, d);
    }

    public int sky(int what) {
        if (what < 0 || what > 2) {
            return BAD;
        }
        told.town.weather(HOUR + what);
        return told.town.allLayers();
    }

    public int scrape(int d) {
        if (!told.town.hasDoor(d)) {
            return BAD;
        }
        Door scraped = told.town.doors[d];
        if (scraped.height == 0) {
            return STATE;
        }
        scraped.loseTop();
        scraped.wet = false;
        return scraped.shown();
    }

    public int alter(int i, int what, int v) {
        if (!told.town.hasVisitor(i) || v < 0) {
            return BAD;
        }
        Visitor altered = told.town.visitors[i];
        if (what == 0 && v < KINDS) {
            int was = altered.kind;
            altered.kind = v;
            return was;
        }
        if (what == 1 && v < COLOURS) {
            int was = altered.colour;
            altered.colour = v;
            return was;
        }
        if (what == 2 && v <= MOST_PAINT) {
            int was = altered.paint;
            altered.paint = v;
            return was;
        }
        if (what == 3 && v == 0) {
            int was = altered.sleeve;
            altered.sleeve = 0;
            return was;
        }
        return BAD;
    }

    public int ought(int d, int colour, boolean not) {
        if (!told.town.hasDoor(d) || !isColour(colour)) {
            return BAD;
        }
        told.town.doors[d].forbid(colour, not);
        return not ? 1 : 0;
    }

    public int plans(int act) {
        if (!isAct(act) || !told.town.knows(act)) {
            return BAD;
        }
        return told.addAct(act) ? told.actCount : FULL;
    }

    public int cut(int n) {
        if (n < 0 || n > told.actCount) {
            return BAD;
        }
        int had = told.actCount;
        told.actCount = n;
        return had;
    }

    // ---- plans

    public int runs(int what) {
        if (what < 0 || what > 4) {
            return BAD;
        }
        int stopped = rehearse();
        switch (what) {
            case 0: return takenInTrial();
            case 1: return trial.wrongBits();
            case 2: return stopped;
            case 3: return trial.allLayers();
            default: return trial.markedBits();
        }
    }

    public int ahead(int d) {
        if (!told.town.hasDoor(d)) {
            return BAD;
        }
        rehearse();
        return trial.doors[d].shown();
    }

    public int clears(int d) {
        if (!told.town.hasDoor(d)) {
            return BAD;
        }
        int clearing = 0;
        for (int v = 0; v < told.town.visitorCount; v++) {
            trial.become(told.town);
            if (!isRefusal(trial.receive(v, d)) && !trial.doors[d].isWrong()) {
                clearing |= 1 << v;
            }
        }
        return clearing;
    }

    public int best(int n, int what) {
        if (n < 0 || n > MOST_ROW || what < 0 || what > 1 && what < TEN) {
            return BAD;
        }
        search.forBest(told.town, n);
        switch (what) {
            case 0: return search.fewestWrong;
            case 1: return search.leastPaint;
            default: return search.visitAt(what - TEN);
        }
    }

    public int few(int what) {
        if (what != 0 && what < TEN) {
            return BAD;
        }
        for (int n = 0; n <= MOST_ROW; n++) {
            if (search.clearsAll(told.town, n)) {
                return what == 0 ? n : search.visitAt(what - TEN);
            }
        }
        return NONE;
    }

    public int reads(int v) {
        if (!told.town.hasVisitor(v)) {
            return BAD;
        }
        int brush = told.town.brushOf(v);
        int holding = 0;
        for (int d = 0; d < told.town.doorCount; d++) {
            if (told.town.doors[d].hasLayerOf(brush)) {
                holding |= 1 << d;
            }
        }
        return holding;
    }

    // ---- what was

    public int see(int d, int i, int colour) {
        boolean toldColour = isColour(colour) || colour == NONE;
        if (!told.town.hasDoor(d) || i < 0 || i >= MOST_LAYERS || !toldColour) {
            return BAD;
        }
        return told.addSeen(d, i, colour) ? told.seenCount : FULL;
    }

    public int forget(int n) {
        if (n < 0 || n > told.seenCount) {
            return BAD;
        }
        int had = told.seenCount;
        told.seenCount = n;
        return had;
    }

    public int pots(int v) {
        if (!told.town.hasVisitor(v)) {
            return BAD;
        }
        int lenders = 0;
        for (int w = 0; w < told.town.visitorCount; w++) {
            trial.become(told.town);
            trial.lend(v, told.town.brushOf(w));
            actInTrial(0, told.actCount);
            if (told.agreesWith(trial)) {
                lenders |= 1 << w;
            }
        }
        return lenders;
    }

    public int rained() {
        int behind = 0;
        for (int k = 0; k <= told.actCount; k++) {
            trial.become(told.town);
            actInTrial(0, k);
            trial.weather(RAIN);
            actInTrial(k, told.actCount);
            if (told.agreesWith(trial)) {
                behind |= 1 << k;
            }
        }
        return behind;
    }

    public int orders(int what) {
        if (what < 0 || what > 1) {
            return BAD;
        }
        if (told.actCount > MOST_ORDERED) {
            return STATE;
        }
        ordersFound = 0;
        lastsFound = 0;
        arrange(0, 0);
        return what == 0 ? ordersFound : lastsFound;
    }

    // ---- odds

    public long luck(int v, int d, int what) {
        if (v < 0 || v > TEN || !told.town.hasDoor(d) || what < 0 || what > 1) {
            return BAD;
        }
        int visits = told.visitsPlanned();
        long part = 0;
        for (int chosen = 0; chosen < 1 << visits; chosen++) {
            long weight = weightOf(chosen, visits, v);
            if (weight > 0) {
                actChosen(chosen);
                part += trial.doors[d].isWrong() ? weight : 0;
            }
        }
        return ofFraction(part, powerOfTen(visits), what);
    }

    public long mean(int v, int what) {
        if (v < 0 || v > TEN || what < 0 || what > 1) {
            return BAD;
        }
        int visits = told.visitsPlanned();
        long part = 0;
        for (int chosen = 0; chosen < 1 << visits; chosen++) {
            long weight = weightOf(chosen, visits, v);
            if (weight > 0) {
                actChosen(chosen);
                part += weight * takenInTrial();
            }
        }
        return ofFraction(part, powerOfTen(visits), what);
    }

    // ---- by a seed

    public int drift(int seed, int n, int what) {
        if (n < 1 || n > MOST_DRIFT || what < 0 || what > 1) {
            return BAD;
        }
        if (!told.town.hasVisits()) {
            return STATE;
        }
        trial.become(told.town);
        int state = seed;
        for (int i = 0; i < n; i++) {
            state = state * 1103515245 + 12345;
            trial.actBySeed(state >>> 16 & 0x7fff);
        }
        return what == 0 ? trial.allLayers() : trial.wrongBits();
    }

    // ---- images, sheets

    public int keep(int k) {
        if (k < 0 || k >= IMAGES) {
            return BAD;
        }
        int was = kept[k] ? 1 : 0;
        images[k].become(told);
        kept[k] = true;
        return was;
    }

    public int back(int k) {
        if (k < 0 || k >= IMAGES) {
            return BAD;
        }
        if (!kept[k]) {
            return STATE;
        }
        told.become(images[k]);
        return told.town.allLayers();
    }

    public int sheet(int k, int lane, int n) {
        if (!isSheet(k) || !isLane(lane) || n > MOST_CELLS) {
            return BAD;
        }
        if (n < 0) {
            return -10 - SIZE_FAULT;
        }
        sheets[k].renew(lane, n);
        return 1;
    }

    public int lay(int k, int i, int v) {
        if (!isSheet(k)) {
            return BAD;
        }
        Sheet laid = sheets[k];
        int found = laid.faultAt(laid.lane, i);
        if (found != 0) {
            return -10 - found;
        }
        laid.put(i, v);
        return 1;
    }

    public int read(int k, int lane, int f, int n) {
        if (!isSheet(k) || !isLane(lane) || n < 0 || n > MOST_PAIRS) {
            return BAD;
        }
        Sheet from = sheets[k];
        trial.become(told.town);
        int found = 0;
        int visited = 0;
        for (int i = 0; i < n && found == 0; i++) {
            int at = f + 2 * i;
            found = from.faultOfPair(lane, at);
            if (found == 0) {
                if (isRefusal(trial.receive(from.cellAt(at), from.cellAt(at + 1)))) {
                    return -20 - i;
                }
                visited++;
            }
        }
        told.town.become(trial);
        latestTear = found;
        return visited;
    }

    public int torn() {
        return latestTear;
    }

    public int count(int what) {
        switch (what) {
            case 0: return told.town.allLayers();
            case 1: return told.seenCount;
            case 2: return (kept[0] ? 1 : 0) + (kept[1] ? 1 : 0);
            case 3: return tape.length;
            case 4: return sheets[0].lane == NONE ? NONE : sheets[0].size;
            default: return BAD;
        }
    }

    // ---- what the calls share

    private static boolean isColour(int colour) {
        return colour >= 0 && colour < COLOURS;
    }

    private static boolean isSheet(int k) {
        return k >= 0 && k < SHEETS;
    }

    private static boolean isLane(int lane) {
        return lane >= 0 && lane < LANES;
    }

    private static boolean isSkyAct(int act) {
        return act >= HOUR && act <= SUN;
    }

    private static boolean isAct(int act) {
        boolean visits = act >= 0 && act / TEN < MOST_VISITORS && act % TEN < MOST_DOORS;
        return visits || isSkyAct(act);
    }

    /** NONE is no refusal: a miser may have visited a bare door. */
    private static boolean isRefusal(int answer) {
        return answer == BAD || answer == STATE || answer == FULL;
    }

    /** Plays THE PLAN in the trial: the first ACT that can not be, or NONE. */
    private int rehearse() {
        trial.become(told.town);
        return actInTrial(0, told.actCount);
    }

    /** Plays the ACTS of THE PLAN from one to ahead of another: the first that can not be, or NONE. */
    private int actInTrial(int from, int to) {
        int stopped = NONE;
        for (int i = from; i < to && i < told.actCount; i++) {
            if (!trial.undergo(told.acts[i]) && stopped == NONE) {
                stopped = i;
            }
        }
        return stopped;
    }

    /** VISITS alone take PAINT, and nothing gives any, so what is missing was taken. */
    private int takenInTrial() {
        return told.town.allPaint() - trial.allPaint();
    }

    /** Tries all orders that go on behind the first "depth" ACTS of the order; used has the bits of these. */
    private void arrange(int depth, int used) {
        if (depth >= told.actCount || depth >= MOST_ORDERED) {
            judgeOrder(depth);
            return;
        }
        for (int i = 0; i < told.actCount; i++) {
            if ((used >> i & 1) == 0) {
                order[depth] = i;
                arrange(depth + 1, used | 1 << i);
            }
        }
    }

    private void judgeOrder(int length) {
        trial.become(told.town);
        for (int i = 0; i < length; i++) {
            trial.undergo(told.acts[order[i]]);
        }
        if (told.agreesWith(trial)) {
            ordersFound++;
            lastsFound |= length > 0 ? 1 << order[length - 1] : 0;
        }
    }

    /** Plays THE PLAN in the trial with those VISITS alone whose bits are chosen, and with all other ACTS. */
    private void actChosen(int chosen) {
        trial.become(told.town);
        int visit = 0;
        for (int i = 0; i < told.actCount; i++) {
            int act = told.acts[i];
            if (isSkyAct(act)) {
                trial.weather(act);
            } else {
                if ((chosen >> visit & 1) == 1) {
                    trial.undergo(act);
                }
                visit++;
            }
        }
    }

    /** The odds that just the chosen ones of all VISITS come to be, by ten to the power of visits. */
    private static long weightOf(int chosen, int visits, int outOfTen) {
        long weight = 1;
        for (int i = 0; i < visits; i++) {
            weight *= (chosen >> i & 1) == 1 ? outOfTen : TEN - outOfTen;
        }
        return weight;
    }

    private static long powerOfTen(int exponent) {
        long power = 1;
        for (int i = 0; i < exponent; i++) {
            power *= TEN;
        }
        return power;
    }

    /** The numerator (what 0) or the denominator (1) of part by whole, in lowest terms; whole is above 0. */
    private static long ofFraction(long part, long whole, int what) {
        long a = whole;
        long b = part;
        // Euclid's steps on numbers of 63 bits are fewer than 100.
        for (int i = 0; i < 100 && b > 0; i++) {
            long rest = a % b;
            a = b;
            b = rest;
        }
        if (a <= 0) {
            return BAD;
        }
        return what == 0 ? part / a : whole / a;
    }

    /** One who visits. */
    private static final class Visitor {
        int kind;
        int colour;
        int paint;
        int sleeve;

        void become(Visitor other) {
            kind = other.kind;
            colour = other.colour;
            paint = other.paint;
            sleeve = other.sleeve;
        }

        void markSleeve(int mark) {
            if (isColour(mark)) {
                sleeve |= 1 << mark;
            }
        }
    }

    /** A door with its layers, the lowest one first. */
    private static final class Door {
        final int[] layers;
        int height;
        int forbidden;
        boolean wet;

        Door() {
            layers = new int[MOST_LAYERS];
        }

        void become(Door other) {
            for (int i = 0; i < other.height; i++) {
                layers[i] = other.layers[i];
            }
            height = other.height;
            forbidden = other.forbidden;
            wet = other.wet;
        }

        void clear() {
            height = 0;
            forbidden = 0;
            wet = false;
        }

        int layerAt(int i) {
            return i >= 0 && i < height ? layers[i] : NONE;
        }

        int shown() {
            return height > 0 && height <= MOST_LAYERS ? layers[height - 1] : NONE;
        }

        boolean isWrong() {
            int colour = shown();
            return colour != NONE && forbids(colour);
        }

        boolean forbids(int colour) {
            return (forbidden >> colour & 1) == 1;
        }

        void forbid(int colour, boolean not) {
            int bit = 1 << colour;
            forbidden = not ? forbidden | bit : forbidden & ~bit;
        }

        boolean hasLayerOf(int colour) {
            for (int i = 0; i < height; i++) {
                if (layers[i] == colour) {
                    return true;
                }
            }
            return false;
        }

        boolean takesNoLayer() {
            return height >= MOST_LAYERS && !wet;
        }

        /** A layer more, if there is room for one. */
        boolean addLayer(int colour) {
            if (height >= MOST_LAYERS) {
                return false;
            }
            layers[height] = colour;
            height++;
            return true;
        }

        void loseTop() {
            if (height > 0) {
                height--;
            }
        }

        void paintWith(int brush) {
            int under = shown();
            if (wet && under != NONE) {
                layers[height - 1] = (under + brush) % COLOURS;
            } else {
                addLayer(brush);
            }
            wet = true;
        }

        void rainOn() {
            if (height == 0) {
                return;
            }
            int sum = 0;
            for (int i = 0; i < 3 && height > 0; i++) {
                sum += shown();
                loseTop();
            }
            addLayer(sum % COLOURS);
            wet = true;
        }

        void shineOn() {
            for (int i = 0; i < MOST_LAYERS && shown() == 0; i++) {
                loseTop();
            }
            wet = false;
        }

        /** Takes a VISIT back: but for the top, the layers of then are untouched. */
        void restore(int oldHeight, int oldTop, boolean oldWet) {
            height = oldHeight;
            if (height > 0 && height <= MOST_LAYERS) {
                layers[height - 1] = oldTop;
            }
            wet = oldWet;
        }
    }

    /** Visitors and doors, and what acts do to them. */
    private static final class Town {
        final Visitor[] visitors;
        final Door[] doors;
        int visitorCount;
        int doorCount;
        /** Who goes with a BRUSH that is not his own, or NONE. */
        int borrower;
        int borrowed;

        Town() {
            visitors = new Visitor[MOST_VISITORS];
            for (int v = 0; v < MOST_VISITORS; v++) {
                visitors[v] = new Visitor();
            }
            doors = new Door[MOST_DOORS];
            for (int d = 0; d < MOST_DOORS; d++) {
                doors[d] = new Door();
            }
            borrower = NONE;
        }

        void become(Town other) {
            visitorCount = other.visitorCount;
            for (int v = 0; v < visitorCount; v++) {
                visitors[v].become(other.visitors[v]);
            }
            doorCount = other.doorCount;
            for (int d = 0; d < doorCount; d++) {
                doors[d].become(other.doors[d]);
            }
            borrower = NONE;
        }

        void clear() {
            visitorCount = 0;
            doorCount = 0;
            for (int d = 0; d < MOST_DOORS; d++) {
                doors[d].clear();
            }
        }

        boolean hasVisitor(int v) {
            return v >= 0 && v < visitorCount;
        }

        boolean hasDoor(int d) {
            return d >= 0 && d < doorCount;
        }

        boolean hasVisits() {
            return visitorCount > 0 && doorCount > 0;
        }

        /** Whether the VISITOR and the DOOR of an ACT are there. */
        boolean knows(int act) {
            return isSkyAct(act) || hasVisitor(act / TEN) && hasDoor(act % TEN);
        }

        void addVisitor(int kind, int colour, int paint) {
            if (visitorCount < MOST_VISITORS) {
                Visitor added = visitors[visitorCount];
                added.kind = kind;
                added.colour = colour;
                added.paint = paint;
                added.sleeve = 0;
                visitorCount++;
            }
        }

        void lend(int v, int brush) {
            borrower = v;
            borrowed = brush;
        }

        int brushOf(int v) {
            if (!hasVisitor(v)) {
                return BAD;
            }
            if (v == borrower) {
                return borrowed;
            }
            return visitors[v].kind == SPY ? visitors[0].colour : visitors[v].colour;
        }

        int costOf(int v, int d) {
            if (!hasVisitor(v) || !hasDoor(d)) {
                return BAD;
            }
            int once = 1 + doors[d].height / 3;
            switch (visitors[v].kind) {
                case MISER: return 0;
                case PRIEST: return 2 * once;
                default: return once;
            }
        }

        /** A VISIT: what the DOOR SHOWS then, or why it can not be. */
        int receive(int v, int d) {
            int cost = costOf(v, d);
            if (cost == BAD) {
                return BAD;
            }
            Visitor caller = visitors[v];
            Door at = doors[d];
            if (caller.paint < cost) {
                return STATE;
            }
            if (caller.kind != MISER && at.takesNoLayer()) {
                return FULL;
            }
            caller.paint -= cost;
            if (at.wet) {
                caller.markSleeve(at.shown());
            }
            if (caller.kind != MISER) {
                at.paintWith(brushOf(v));
            }
            return at.shown();
        }

        void weather(int act) {
            for (int d = 0; d < doorCount; d++) {
                switch (act) {
                    case HOUR: doors[d].wet = false; break;
                    case RAIN: doors[d].rainOn(); break;
                    case SUN: doors[d].shineOn(); break;
                    default: break;
                }
            }
        }

        /** Does an ACT: whether it could be. */
        boolean undergo(int act) {
            if (isSkyAct(act)) {
                weather(act);
                return true;
            }
            return !isRefusal(receive(act / TEN, act % TEN));
        }

        void actBySeed(int got) {
            int choice = got % 8;
            if (choice >= 5) {
                weather(HOUR + choice - 5);
            } else if (hasVisits()) {
                receive(got / 8 % visitorCount, got / 32 % doorCount);
            }
        }

        int allPaint() {
            int sum = 0;
            for (int v = 0; v < visitorCount; v++) {
                sum += visitors[v].paint;
            }
            return sum;
        }

        int allLayers() {
            int sum = 0;
            for (int d = 0; d < doorCount; d++) {
                sum += doors[d].height;
            }
            return sum;
        }

        int wetBits() {
            int bits = 0;
            for (int d = 0; d < doorCount; d++) {
                bits |= doors[d].wet ? 1 << d : 0;
            }
            return bits;
        }

        int wrongBits() {
            int bits = 0;
            for (int d = 0; d < doorCount; d++) {
                bits |= doors[d].isWrong() ? 1 << d : 0;
            }
            return bits;
        }

        int markedBits() {
            int bits = 0;
            for (int v = 0; v < visitorCount; v++) {
                bits |= visitors[v].sleeve != 0 ? 1 << v : 0;
            }
            return bits;
        }
    }

    /** All that an IMAGE keeps: the town, THE PLAN, and what was SEEN. */
    private static final class Told {
        final Town town;
        final int[] acts;
        int actCount;
        final int[] seenDoors;
        final int[] seenLayers;
        final int[] seenColours;
        int seenCount;

        Told() {
            town = new Town();
            acts = new int[MOST_ACTS];
            seenDoors = new int[MOST_SEEN];
            seenLayers = new int[MOST_SEEN];
            seenColours = new int[MOST_SEEN];
        }

        void become(Told other) {
            town.become(other.town);
            actCount = other.actCount;
            for (int i = 0; i < actCount; i++) {
                acts[i] = other.acts[i];
            }
            seenCount = other.seenCount;
            for (int i = 0; i < seenCount; i++) {
                seenDoors[i] = other.seenDoors[i];
                seenLayers[i] = other.seenLayers[i];
                seenColours[i] = other.seenColours[i];
            }
        }

        void clear() {
            town.clear();
            actCount = 0;
            seenCount = 0;
        }

        boolean addAct(int act) {
            if (actCount >= MOST_ACTS) {
                return false;
            }
            acts[actCount] = act;
            actCount++;
            return true;
        }

        boolean addSeen(int d, int i, int colour) {
            if (seenCount >= MOST_SEEN) {
                return false;
            }
            seenDoors[seenCount] = d;
            seenLayers[seenCount] = i;
            seenColours[seenCount] = colour;
            seenCount++;
            return true;
        }

        boolean agreesWith(Town then) {
            for (int i = 0; i < seenCount; i++) {
                int d = seenDoors[i];
                if (!then.hasDoor(d) || then.doors[d].layerAt(seenLayers[i]) != seenColours[i]) {
                    return false;
                }
            }
            return true;
        }

        int visitsPlanned() {
            int visits = 0;
            for (int i = 0; i < actCount; i++) {
                visits += isSkyAct(acts[i]) ? 0 : 1;
            }
            return visits;
        }

        /** Whether THE PLAN and the "not" lines speak of VISITORS and DOORS that there are. */
        boolean isWhole() {
            for (int i = 0; i < actCount; i++) {
                if (!town.knows(acts[i])) {
                    return false;
                }
            }
            for (int d = town.doorCount; d < MOST_DOORS; d++) {
                if (town.doors[d].forbidden != 0) {
                    return false;
                }
            }
            return true;
        }
    }

    /** THE TAPE, and the TOKEN on it that is looked at. */
    private static final class Tape {
        static final int END = 0, NAME = 1, NUMBER = 2, STOP = 3, NO_TOKEN = 4;

        final int[] bytes;
        int length;
        int kind;
        int start;
        int next;
        int value;

        Tape() {
            bytes = new int[MOST_BYTES];
        }

        boolean append(int c) {
            if (length >= MOST_BYTES) {
                return false;
            }
            bytes[length] = c;
            length++;
            return true;
        }

        void rewind() {
            next = 0;
            advance();
        }

        /** Looks at the TOKEN behind the one that has been taken. */
        void advance() {
            while (next < length && bytes[next] == ' ') {
                next++;
            }
            start = next;
            if (next >= length) {
                kind = END;
            } else if (skip('a', 'z')) {
                kind = NAME;
            } else if (skip('0', '9')) {
                takeNumber();
            } else {
                kind = bytes[next] == ';' ? STOP : NO_TOKEN;
                next++;
            }
        }

        /** Goes behind all bytes from low to high that stand here: whether there was one. */
        private boolean skip(int low, int high) {
            while (next < length && bytes[next] >= low && bytes[next] <= high) {
                next++;
            }
            return next > start;
        }

        private void takeNumber() {
            kind = next - start > 2 ? NO_TOKEN : NUMBER;
            value = 0;
            for (int i = start; i < next && kind == NUMBER; i++) {
                value = value * TEN + bytes[i] - '0';
            }
        }

        boolean nameIs(String word) {
            if (kind != NAME || next - start != word.length()) {
                return false;
            }
            for (int i = 0; i < word.length(); i++) {
                if (bytes[start + i] != word.charAt(i)) {
                    return false;
                }
            }
            return true;
        }
    }

    /** Reads a text into a draft, up to its first FAULT. */
    private static final class Reader {
        final Told draft;
        final Tape from;
        int found;
        int place;
        boolean planned;

        Reader() {
            draft = new Told();
            from = new Tape();
        }

        /** How many lines there are, or -10 less the place of the FAULT that was found. */
        int readAll() {
            found = 0;
            planned = false;
            draft.clear();
            from.rewind();
            int lines = 0;
            // no line is shorter than a byte
            while (lines < MOST_BYTES && found == 0 && from.kind != Tape.END) {
                readLine();
                lines++;
            }
            if (found == 0 && !draft.isWhole()) {
                found = 6;
                place = from.length;
            }
            return found == 0 ? lines : -10 - place;
        }

        private void readLine() {
            if (!stands(Tape.NAME)) {
                return;
            }
            if (from.nameIs("door")) {
                readDoor();
            } else if (from.nameIs("not")) {
                readNot();
            } else if (from.nameIs("plan")) {
                readPlan();
            } else {
                readVisitor(kindNamed());
            }
        }

        private int kindNamed() {
            if (from.nameIs("plain")) {
                return PLAIN;
            }
            if (from.nameIs("priest")) {
                return PRIEST;
            }
            if (from.nameIs("miser")) {
                return MISER;
            }
            return from.nameIs("spy") ? SPY : NONE;
        }

        private void readVisitor(int kind) {
            if (kind == NONE) {
                fail(2);
                return;
            }
            if (draft.town.visitorCount >= MOST_VISITORS) {
                fail(5);
                return;
            }
            from.advance();
            if (!numberStands(COLOURS - 1)) {
                return;
            }
            int colour = from.value;
            from.advance();
            if (!numberStands(MOST_PAINT)) {
                return;
            }
            draft.town.addVisitor(kind, colour, from.value);
            from.advance();
            endLine();
        }

        private void readDoor() {
            if (draft.town.doorCount >= MOST_DOORS) {
                fail(5);
                return;
            }
            Door added = draft.town.doors[draft.town.doorCount];
            draft.town.doorCount++;
            from.advance();
            // one NUMBER too many is a FAULT, and ends it
            for (int i = 0; i <= MOST_LAYERS && from.kind == Tape.NUMBER; i++) {
                if (!numberStands(COLOURS - 1)) {
                    return;
                }
                if (!added.addLayer(from.value)) {
                    fail(5);
                    return;
                }
                from.advance();
            }
            endLine();
        }

        private void readNot() {
            from.advance();
            if (!numberStands(MOST_DOORS - 1)) {
                return;
            }
            Door named = draft.town.doors[from.value];
            from.advance();
            if (!numberStands(COLOURS - 1)) {
                return;
            }
            if (named.forbids(from.value)) {
                fail(4);
                return;
            }
            named.forbid(from.value, true);
            from.advance();
            endLine();
        }

        private void readPlan() {
            if (planned) {
                fail(4);
                return;
            }
            planned = true;
            from.advance();
            // one NUMBER too many is a FAULT, and ends it
            for (int i = 0; i <= MOST_ACTS && from.kind == Tape.NUMBER; i++) {
                if (!isAct(from.value)) {
                    fail(3);
                    return;
                }
                if (!draft.addAct(from.value)) {
                    fail(5);
                    return;
                }
                from.advance();
            }
            endLine();
        }

        private void endLine() {
            if (stands(Tape.STOP)) {
                from.advance();
            }
        }

        private boolean numberStands(int most) {
            if (!stands(Tape.NUMBER)) {
                return false;
            }
            if (from.value > most) {
                fail(3);
                return false;
            }
            return true;
        }

        /** Whether a TOKEN of that kind is looked at; another one is a FAULT. */
        private boolean stands(int kind) {
            if (from.kind == kind) {
                return true;
            }
            fail(from.kind == Tape.NO_TOKEN ? 1 : 2);
            return false;
        }

        private void fail(int number) {
            found = number;
            place = from.start;
        }
    }

    /** A row of cells; what is too wide for its lane is cut when it is laid. */
    private static final class Sheet {
        final int[] cells;
        int size;
        /** The lane, or NONE as long as the SHEET is nothing. */
        int lane;

        Sheet() {
            cells = new int[MOST_CELLS];
            lane = NONE;
        }

        void renew(int newLane, int newSize) {
            lane = newLane;
            size = newSize;
            for (int i = 0; i < MOST_CELLS; i++) {
                cells[i] = 0;
            }
        }

        /** What the machine finds if CELL i is used of the SHEET taken as of a lane; the cast is ahead of the index. */
        int faultAt(int asLane, int i) {
            if (lane == NONE) {
                return NULL_FAULT;
            }
            if (lane != asLane) {
                return CAST_FAULT;
            }
            return i < 0 || i >= size ? INDEX_FAULT : 0;
        }

        int faultOfPair(int asLane, int i) {
            int first = faultAt(asLane, i);
            return first != 0 ? first : faultAt(asLane, i + 1);
        }

        void put(int i, int v) {
            if (i >= 0 && i < size) {
                cells[i] = lane == 0 ? (byte) v : lane == 1 ? (short) v : v;
            }
        }

        int cellAt(int i) {
            return i >= 0 && i < size ? cells[i] : BAD;
        }
    }

    /** Tries all rows of some VISITS, the lowest numbers first, each VISIT taken back behind it. */
    private static final class Search {
        static final int WORST = 1 << 30;

        final Town town;
        final int[] row;
        final int[] bestRow;
        int length;
        int fewestWrong;
        int leastPaint;
        boolean byPaint;

        Search() {
            town = new Town();
            row = new int[MOST_ROW];
            bestRow = new int[MOST_ROW];
        }

        /** Finds the row by which fewest DOORS are WRONG and least PAINT is taken. */
        void forBest(Town now, int n) {
            byPaint = true;
            fewestWrong = WORST;
            begin(now, n);
            tryFrom(0, Integer.bitCount(town.wrongBits()), 0);
        }

        /** Finds the first row by which no DOOR is WRONG: whether there is one. */
        boolean clearsAll(Town now, int n) {
            byPaint = false;
            // a row that leaves one DOOR WRONG is no better than none
            fewestWrong = 1;
            begin(now, n);
            tryFrom(0, Integer.bitCount(town.wrongBits()), 0);
            return fewestWrong == 0;
        }

        /** Where there are no VISITS at all, the one row is empty. */
        private void begin(Town now, int n) {
            town.become(now);
            length = now.hasVisits() ? n : 0;
            leastPaint = WORST;
        }

        int visitAt(int i) {
            return i >= 0 && i < length && i < MOST_ROW ? bestRow[i] : NONE;
        }

        private void tryFrom(int depth, int wrong, int taken) {
            if (depth >= length || depth >= MOST_ROW) {
                if (isBetter(wrong, taken)) {
                    take(wrong, taken);
                }
                return;
            }
            for (int v = 0; v < town.visitorCount; v++) {
                for (int d = 0; d < town.doorCount && mayImprove(depth, wrong, taken); d++) {
                    row[depth] = TEN * v + d;
                    tryVisit(v, d, depth, wrong, taken);
                }
            }
        }

        /** Marks on the sleeve stay: no row is better or worse by them. */
        private void tryVisit(int v, int d, int depth, int wrong, int taken) {
            Visitor caller = town.visitors[v];
            Door at = town.doors[d];
            int paint = caller.paint;
            int height = at.height;
            int top = at.shown();
            boolean wet = at.wet;
            int others = at.isWrong() ? wrong - 1 : wrong;
            town.receive(v, d);
            tryFrom(depth + 1, at.isWrong() ? others + 1 : others, taken + paint - caller.paint);
            caller.paint = paint;
            at.restore(height, top, wet);
        }

        /** Whether a row may be better that goes on from here: a VISIT clears one DOOR at most, and gives no PAINT. */
        private boolean mayImprove(int depth, int wrong, int taken) {
            return isBetter(Math.max(0, wrong - (length - depth)), taken);
        }

        /** A row that is as good as an earlier one is not better. */
        private boolean isBetter(int wrong, int taken) {
            return wrong < fewestWrong || byPaint && wrong == fewestWrong && taken < leastPaint;
        }

        private void take(int wrong, int taken) {
            fewestWrong = wrong;
            leastPaint = taken;
            for (int i = 0; i < length && i < MOST_ROW; i++) {
                bestRow[i] = row[i];
            }
        }
    }
}
