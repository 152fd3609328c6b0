import java.math.BigInteger;
import java.util.ArrayList;
import java.util.List;
import java.util.regex.Matcher;
import java.util.regex.Pattern;

/** The document once more, in another hand: slow, copying, with lists; ModelTest compares the class with it. */
final class Model {
    static final int BAD = -1, STATE = -2, FULL = -3, NONE = -4;

    static final class World {
        List<int[]> visitors = new ArrayList<>(); // kind, colour, paint, sleeve
        List<List<Integer>> doors = new ArrayList<>();
        List<Boolean> wet = new ArrayList<>();
        List<Integer> nots = new ArrayList<>();
        List<Integer> plan = new ArrayList<>();
        List<int[]> seen = new ArrayList<>();

        World copy() {
            World w = new World();
            for (int[] v : visitors) w.visitors.add(v.clone());
            for (List<Integer> d : doors) w.doors.add(new ArrayList<>(d));
            w.wet.addAll(wet);
            w.nots.addAll(nots);
            w.plan.addAll(plan);
            w.seen.addAll(seen);
            return w;
        }
        boolean v(int v) { return v >= 0 && v < visitors.size(); }
        boolean d(int d) { return d >= 0 && d < doors.size(); }
        int shows(int d) {
            List<Integer> l = doors.get(d);
            return l.isEmpty() ? NONE : l.get(l.size() - 1);
        }
        int layer(int d, int i) { return i < doors.get(d).size() ? doors.get(d).get(i) : NONE; }
        boolean wrong(int d) { return shows(d) != NONE && (nots.get(d) & 1 << shows(d)) != 0; }
        int wrongs() {
            int b = 0;
            for (int d = 0; d < doors.size(); d++) if (wrong(d)) b += 1 << d;
            return b;
        }
        int layers() { return doors.stream().mapToInt(List::size).sum(); }
        int brush(int v) { return visitors.get(visitors.get(v)[0] == 3 ? 0 : v)[1]; }
        int uses(int v, int d) {
            if (!v(v) || !d(d)) return BAD;
            int third = 1 + doors.get(d).size() / 3;
            return new int[] {third, third * 2, 0, third}[visitors.get(v)[0]];
        }
        int visit(int v, int d) { return v(v) ? visitWith(v, d, brush(v)) : BAD; }
        int visitWith(int v, int d, int brush) {
            if (!v(v) || !d(d)) return BAD;
            int[] who = visitors.get(v);
            List<Integer> layers = doors.get(d);
            boolean miser = who[0] == 2;
            if (who[2] < uses(v, d)) return STATE;
            if (!miser && layers.size() == 6 && !wet.get(d)) return FULL;
            who[2] -= uses(v, d);
            if (wet.get(d)) who[3] |= 1 << shows(d);
            if (miser) return shows(d);
            if (wet.get(d)) layers.set(layers.size() - 1, (shows(d) + brush) % 6);
            else layers.add(brush);
            wet.set(d, true);
            return shows(d);
        }
        void sky(int what) {
            for (int d = 0; d < doors.size(); d++) {
                List<Integer> l = doors.get(d);
                if (what == 1 && !l.isEmpty()) {
                    int from = Math.max(0, l.size() - 3);
                    int sum = 0;
                    for (int c : l.subList(from, l.size())) sum += c;
                    l.subList(from, l.size()).clear();
                    l.add(sum % 6);
                    wet.set(d, true);
                } else if (what != 1) {
                    while (what == 2 && shows(d) == 0) l.remove(l.size() - 1);
                    wet.set(d, false);
                }
            }
        }
        boolean act(int a) {
            if (a >= 90) {
                sky(a - 90);
                return true;
            }
            int r = visit(a / 10, a % 10);
            return r >= 0 || r == NONE;
        }
        World behind(List<Integer> acts) {
            World w = copy();
            for (int a : acts) w.act(a);
            return w;
        }
        boolean asSeen() {
            return seen.stream().allMatch(s -> layer(s[0], s[1]) == s[2]);
        }
        int paint() { return visitors.stream().mapToInt(v -> v[2]).sum(); }
    }

    World now = new World();
    World[] images = new World[2];
    StringBuilder tape = new StringBuilder();
    int fault, torn;
    int[][] sheets = new int[4][];
    int[] lanes = new int[4];

    // ---- the text
    private static final class Fault extends RuntimeException {
        private static final long serialVersionUID = 1L;
        final int number, place;
        Fault(int number, int place) { this.number = number; this.place = place; }
    }
    private static final Pattern TOKEN = Pattern.compile(" *([a-z]+|[0-9]+|;|\\z|.)", Pattern.DOTALL);
    private String source;
    private Matcher matcher;
    private String token() {
        if (!matcher.lookingAt()) throw new IllegalStateException();
        return matcher.group(1);
    }
    private int place() { return matcher.start(1); }
    private void take() { matcher.region(matcher.end(), source.length()); }
    private String sound() {
        String t = token();
        boolean ok = t.isEmpty() || t.matches("[a-z]+|[0-9]{1,2}|;");
        if (!ok) throw new Fault(1, place());
        return t;
    }
    private int number(int most) {
        String t = sound();
        if (!t.matches("[0-9]+")) throw new Fault(2, place());
        int n = Integer.parseInt(t);
        if (n > most) throw new Fault(3, place());
        return n;
    }
    private void stop() {
        if (!sound().equals(";")) throw new Fault(2, place());
        take();
    }
    private static boolean isAct(int a) {
        return a >= 90 && a <= 92 || a >= 0 && a < 34 && a % 10 < 4;
    }
    private int parse(World w) {
        int lines = 0;
        boolean planned = false;
        int[] nots = new int[4];
        List<String> kinds = List.of("plain", "priest", "miser", "spy");
        while (!sound().isEmpty()) {
            String name = token();
            int at = place();
            int kind = kinds.indexOf(name);
            if (kind < 0 && !List.of("door", "not", "plan").contains(name)) throw new Fault(2, at);
            if (name.equals("plan") && planned) throw new Fault(4, at);
            if (kind >= 0 && w.visitors.size() == 4 || name.equals("door") && w.doors.size() == 4) throw new Fault(5, at);
            take();
            if (kind >= 0) {
                int colour = number(5);
                take();
                w.visitors.add(new int[] {kind, colour, number(99), 0});
                take();
            } else if (name.equals("door")) {
                List<Integer> layers = new ArrayList<>();
                while (sound().matches("[0-9]+")) {
                    layers.add(number(5));
                    if (layers.size() > 6) throw new Fault(5, place());
                    take();
                }
                w.doors.add(layers);
                w.wet.add(false);
            } else if (name.equals("not")) {
                int d = number(3);
                take();
                int bit = 1 << number(5);
                if ((nots[d] & bit) != 0) throw new Fault(4, place());
                nots[d] |= bit;
                take();
            } else {
                planned = true;
                while (sound().matches("[0-9]+")) {
                    int a = number(99);
                    if (!isAct(a)) throw new Fault(3, place());
                    w.plan.add(a);
                    if (w.plan.size() > 8) throw new Fault(5, place());
                    take();
                }
            }
            stop();
            lines++;
        }
        for (int d = 0; d < 4; d++) {
            if (d < w.doors.size()) w.nots.add(nots[d]);
            else if (nots[d] != 0) throw new Fault(6, source.length());
        }
        for (int a : w.plan) if (a < 90 && !(w.v(a / 10) && w.d(a % 10))) throw new Fault(6, source.length());
        return lines;
    }
    int text() {
        source = tape.toString();
        matcher = TOKEN.matcher(source);
        tape.setLength(0);
        World w = new World();
        try {
            int lines = parse(w);
            now = w;
            images = new World[2];
            fault = 0;
            return lines;
        } catch (Fault f) {
            fault = f.number;
            return -10 - f.place;
        }
    }
    int feed(int c) {
        if (c < 0 || c > 127) return BAD;
        if (tape.length() == 160) return FULL;
        return tape.append((char) c).length();
    }
    int end(int n) {
        int had = tape.length();
        if (n < 0 || n > had) return BAD;
        tape.setLength(n);
        return had;
    }
    int rule(int what) {
        int wets = 0;
        for (int d = 0; d < now.doors.size(); d++) if (now.wet.get(d)) wets += 1 << d;
        int[] all = {now.visitors.size(), now.doors.size(), now.plan.size(), wets, now.wrongs(), now.paint()};
        return what < 0 || what > 5 ? BAD : all[what];
    }
    int visitor(int v, int what) {
        if (!now.v(v) || what < 0 || what > 4) return BAD;
        return what == 4 ? now.brush(v) : now.visitors.get(v)[what];
    }
    int door(int d, int what) {
        if (!now.d(d)) return BAD;
        if (what >= 10 && what <= 15) return now.layer(d, what - 10);
        if (what < 0 || what > 3) return BAD;
        return new int[] {now.doors.get(d).size(), now.shows(d), now.nots.get(d), now.wet.get(d) ? 1 : 0}[what];
    }
    int plan(int i) { return i < 0 || i >= now.plan.size() ? BAD : now.plan.get(i); }

    // ---- what is changed
    int sky(int what) {
        if (what < 0 || what > 2) return BAD;
        now.sky(what);
        return now.layers();
    }
    int scrape(int d) {
        if (!now.d(d)) return BAD;
        List<Integer> l = now.doors.get(d);
        if (l.isEmpty()) return STATE;
        l.remove(l.size() - 1);
        now.wet.set(d, false);
        return now.shows(d);
    }
    int alter(int i, int what, int v) {
        if (!now.v(i) || what < 0 || what > 3 || v < 0 || v > new int[] {3, 5, 99, 0}[what]) return BAD;
        int was = now.visitors.get(i)[what];
        now.visitors.get(i)[what] = v;
        return was;
    }
    int ought(int d, int colour, boolean not) {
        if (!now.d(d) || colour < 0 || colour > 5) return BAD;
        int bits = now.nots.get(d) & ~(1 << colour);
        now.nots.set(d, not ? bits | 1 << colour : bits);
        return not ? 1 : 0;
    }
    int plans(int a) {
        if (!isAct(a) || a < 90 && !(now.v(a / 10) && now.d(a % 10))) return BAD;
        if (now.plan.size() == 8) return FULL;
        now.plan.add(a);
        return now.plan.size();
    }
    private static int shorten(List<?> list, int n) {
        int had = list.size();
        if (n < 0 || n > had) return BAD;
        list.subList(n, had).clear();
        return had;
    }
    int cut(int n) { return shorten(now.plan, n); }

    // ---- plans
    int runs(int what) {
        if (what < 0 || what > 4) return BAD;
        World w = now.copy();
        int first = NONE;
        for (int i = now.plan.size() - 1; i >= 0; i--) {
            World u = now.behind(now.plan.subList(0, i));
            if (!u.act(now.plan.get(i))) first = i;
        }
        w = w.behind(w.plan);
        int marked = 0;
        for (int v = 0; v < w.visitors.size(); v++) if (w.visitors.get(v)[3] > 0) marked += 1 << v;
        return new int[] {now.paint() - w.paint(), w.wrongs(), first, w.layers(), marked}[what];
    }
    int ahead(int d) { return now.d(d) ? now.behind(now.plan).shows(d) : BAD; }
    int clears(int d) {
        if (!now.d(d)) return BAD;
        int bits = 0;
        for (int v = 0; v < now.visitors.size(); v++) {
            World w = now.copy();
            if (w.act(10 * v + d) && !w.wrong(d)) bits += 1 << v;
        }
        return bits;
    }
    private List<List<Integer>> rows(int n) {
        List<List<Integer>> rows = new ArrayList<>();
        rows.add(new ArrayList<>());
        for (int i = 0; i < n; i++) {
            List<List<Integer>> longer = new ArrayList<>();
            for (List<Integer> r : rows)
                for (int a = 0; a < 34; a++)
                    if (isAct(a) && now.v(a / 10) && now.d(a % 10)) {
                        List<Integer> more = new ArrayList<>(r);
                        more.add(a);
                        longer.add(more);
                    }
            rows = longer;
        }
        return rows;
    }
    int best(int n, int what) {
        if (n < 0 || n > 3 || what < 0 || what > 1 && what < 10) return BAD;
        int wrong = Integer.bitCount(now.wrongs()), paint = 0;
        List<Integer> row = null;
        for (List<Integer> r : rows(n)) {
            World w = now.behind(r);
            int ww = Integer.bitCount(w.wrongs()), p = now.paint() - w.paint();
            if (row == null || ww < wrong || ww == wrong && p < paint) {
                row = r;
                wrong = ww;
                paint = p;
            }
        }
        if (what < 2) return what == 0 ? wrong : paint;
        return row == null || what - 10 >= n ? NONE : row.get(what - 10);
    }
    int few(int what) {
        if (what != 0 && what < 10) return BAD;
        for (int n = 0; n <= 3; n++)
            for (List<Integer> r : rows(n))
                if (now.behind(r).wrongs() == 0) return what == 0 ? n : what - 10 >= n ? NONE : r.get(what - 10);
        return NONE;
    }
    int reads(int v) {
        if (!now.v(v)) return BAD;
        int bits = 0;
        for (int d = 0; d < now.doors.size(); d++) if (now.doors.get(d).contains(now.brush(v))) bits += 1 << d;
        return bits;
    }

    // ---- what was
    int see(int d, int i, int colour) {
        if (!now.d(d) || i < 0 || i > 5 || colour > 5 || colour < 0 && colour != NONE) return BAD;
        if (now.seen.size() == 6) return FULL;
        now.seen.add(new int[] {d, i, colour});
        return now.seen.size();
    }
    int forget(int n) { return shorten(now.seen, n); }
    int pots(int v) {
        if (!now.v(v)) return BAD;
        int bits = 0;
        for (int u = 0; u < now.visitors.size(); u++) {
            World w = now.copy();
            for (int a : now.plan) {
                if (a < 90 && a / 10 == v) w.visitWith(v, a % 10, now.brush(u));
                else w.act(a);
            }
            if (w.asSeen()) bits += 1 << u;
        }
        return bits;
    }
    int rained() {
        int bits = 0;
        for (int k = 0; k <= now.plan.size(); k++) {
            List<Integer> acts = new ArrayList<>(now.plan);
            acts.add(k, 91);
            if (now.behind(acts).asSeen()) bits += 1 << k;
        }
        return bits;
    }
    private int found, lasts;
    private void order(List<Integer> places, int n) {
        if (places.size() == n) {
            List<Integer> acts = new ArrayList<>();
            for (int p : places) acts.add(now.plan.get(p));
            if (now.behind(acts).asSeen()) {
                found++;
                if (n > 0) lasts |= 1 << places.get(n - 1);
            }
        }
        for (int p = 0; p < n; p++)
            if (!places.contains(p)) {
                places.add(p);
                order(places, n);
                places.remove(places.size() - 1);
            }
    }
    int orders(int what) {
        if (what < 0 || what > 1) return BAD;
        if (now.plan.size() > 5) return STATE;
        found = 0;
        lasts = 0;
        order(new ArrayList<>(), now.plan.size());
        return what == 0 ? found : lasts;
    }

    // ---- odds
    private BigInteger chance(World w, int at, int v, int d) {
        if (at == now.plan.size()) {
            int value = d < 0 ? now.paint() - w.paint() : w.wrong(d) ? 1 : 0;
            return BigInteger.valueOf(value);
        }
        int a = now.plan.get(at);
        World with = w.behind(List.of(a));
        if (a >= 90) return chance(with, at + 1, v, d);
        BigInteger yes = chance(with, at + 1, v, d).multiply(BigInteger.valueOf(v));
        return yes.add(chance(w, at + 1, v, d).multiply(BigInteger.valueOf(10 - v)));
    }
    private long odds(int v, int d, int what) {
        BigInteger whole = BigInteger.TEN.pow((int) now.plan.stream().filter(a -> a < 90).count());
        BigInteger part = chance(now, 0, v, d);
        BigInteger common = part.gcd(whole);
        return (what == 0 ? part : whole).divide(common).longValueExact();
    }
    long luck(int v, int d, int what) { return v < 0 || v > 10 || !now.d(d) || what < 0 || what > 1 ? BAD : odds(v, d, what); }
    long mean(int v, int what) { return v < 0 || v > 10 || what < 0 || what > 1 ? BAD : odds(v, -1, what); }

    // ---- by a seed
    int drift(int seed, int n, int what) {
        if (n < 1 || n > 60 || what < 0 || what > 1) return BAD;
        int vs = now.visitors.size(), ds = now.doors.size();
        if (vs == 0 || ds == 0) return STATE;
        World w = now.copy();
        long s = seed & 0xffffffffL;
        for (int i = 0; i < n; i++) {
            s = s * 1103515245L + 12345L & 0xffffffffL;
            int got = (int) (s / 65536 % 32768);
            if (got % 8 < 5) w.visit(got / 8 % vs, got / 32 % ds);
            else w.sky(got % 8 - 5);
        }
        return what == 0 ? w.layers() : w.wrongs();
    }

    // ---- images, sheets
    int keep(int k) {
        if (k < 0 || k > 1) return BAD;
        int was = images[k] == null ? 0 : 1;
        images[k] = now.copy();
        return was;
    }
    int back(int k) {
        if (k < 0 || k > 1) return BAD;
        if (images[k] == null) return STATE;
        now = images[k].copy();
        return now.layers();
    }
    int sheet(int k, int lane, int n) {
        if (k < 0 || k > 3 || lane < 0 || lane > 2 || n > 40) return BAD;
        if (n < 0) return -14;
        sheets[k] = new int[n];
        lanes[k] = lane;
        return 1;
    }
    int lay(int k, int i, int v) {
        if (k < 0 || k > 3) return BAD;
        if (sheets[k] == null) return -11;
        if (i < 0 || i >= sheets[k].length) return -12;
        sheets[k][i] = lanes[k] == 0 ? (byte) v : lanes[k] == 1 ? (short) v : v;
        return 1;
    }
    int read(int k, int lane, int f, int n) {
        if (k < 0 || k > 3 || lane < 0 || lane > 2 || n < 0 || n > 20) return BAD;
        World w = now.copy();
        int tear = 0, i = 0;
        for (; i < n; i++) {
            long a = (long) f + 2 * i;
            if (sheets[k] == null) tear = 1;
            else if (lanes[k] != lane) tear = 3;
            else if (a < 0 || a + 1 >= sheets[k].length) tear = 2;
            if (tear > 0) break;
            int r = w.visit(sheets[k][(int) a], sheets[k][(int) a + 1]);
            if (r < 0 && r != NONE) return -20 - i;
        }
        now = w;
        torn = tear;
        return i;
    }
    int count(int what) {
        switch (what) {
            case 0: return now.layers();
            case 1: return now.seen.size();
            case 2: return (images[0] == null ? 0 : 1) + (images[1] == null ? 0 : 1);
            case 3: return tape.length();
            case 4: return sheets[0] == null ? NONE : sheets[0].length;
            default: return BAD;
        }
    }
}
