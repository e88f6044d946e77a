import java.util.ArrayList;
import java.util.Arrays;
import java.util.HashMap;
import java.util.HashSet;
import java.util.List;
import java.util.Map;
import java.util.NoSuchElementException;
import java.util.Random;
import java.util.Set;
import java.util.function.IntBinaryOperator;
import java.util.regex.Matcher;
import java.util.regex.Pattern;

/**
 * Random runs, each answered by PackWeeks and by a plain second telling of the document (the slow
 * way: every step walked, every order and every share tried); prints the runs that differ.
 */
public final class PackWeeksModel {
    private static final String THROWS = "throws.NoSuchElementException";

    // ---- the plain telling ----

    private static final class Fault extends RuntimeException {
        private static final long serialVersionUID = 1L;
        final int number;
        Fault(int kind, int at) { number = kind + 16 * at; }
    }

    private static final class Token {
        final String text; final int at; final boolean none;
        Token(String text, int at, boolean none) { this.text = text; this.at = at; this.none = none; }
        boolean isWord() { return !none && text.matches("[a-z]+"); }
        boolean isNumber() { return !none && text.matches("[0-9]+"); }
        boolean is(String s) { return !none && text.equals(s); }
    }

    private interface Expr { int of(Map<String, Integer> facts); }

    private static final class Told {
        int over = 2, down = 2, pace = 2;
        int[][] flow = new int[8][8];
        List<String> names = new ArrayList<>();
        List<String> thingNames = new ArrayList<>();
        List<int[]> things = new ArrayList<>();   // kind, x, y
        List<int[]> leads = new ArrayList<>();    // x, y, round, from, for
        List<int[]> crews = new ArrayList<>();    // ship, men, biscuit
        List<int[]> gaps = new ArrayList<>();
        List<int[]> signs = new ArrayList<>();
        List<int[]> loads = new ArrayList<>();
        Expr eat = f -> f.get("crewmen"), look = f -> 1, brk = f -> 1;
        Told() { for (int[] row : flow) Arrays.fill(row, 4); }
    }

    private static final Set<String> KEPT = new HashSet<>(Arrays.asList(("grid drift thing at lead round from for crew men biscuit "
        + "pace gap opens nips sign often load worth takes eat look break haul lend home north east south west still "
        + "ship hut bear cairn not and or").split(" ")));
    private static final List<String> FLOWS = Arrays.asList("north", "east", "south", "west", "still");
    private static final List<String> KINDS = Arrays.asList("ship", "hut", "bear", "cairn");

    private static final class Parser {
        final List<Token> tokens = new ArrayList<>();
        int i = 0;
        Set<String> facts;

        Parser(String text) {
            Matcher m = Pattern.compile("[a-z]+|[0-9]+|[^ \n]").matcher(text);
            while (m.find()) {
                String t = m.group();
                boolean ok = t.matches("[a-z]{1,8}|[0-9]{1,4}|[()<=+*;-]");
                tokens.add(new Token(t, m.start(), !ok));
            }
            tokens.add(new Token("", text.length(), false));
        }

        Token peek() { return tokens.get(i); }
        Fault fault(int kind) { return new Fault(kind, peek().at); }
        boolean atEnd() { return i == tokens.size() - 1; }
        void word(String w) { if (!peek().is(w)) throw fault(1); i++; }
        int number(int lo, int hi) {
            if (!peek().isNumber()) throw fault(1);
            int n = Integer.parseInt(peek().text);
            if (n < lo || n > hi) throw fault(4);
            i++;
            return n;
        }
        int oneOf(List<String> list) {
            int k = peek().none ? -1 : list.indexOf(peek().text);
            if (k < 0) throw fault(1);
            i++;
            return k;
        }
        String name() {
            if (!peek().isWord() || KEPT.contains(peek().text)) throw fault(1);
            return peek().text;
        }
        String fresh(Told t) {
            String n = name();
            if (t.names.contains(n)) throw fault(3);
            i++;
            return n;
        }

        Told pack() {
            Told t = new Told();
            Set<String> once = new HashSet<>();
            word("grid");
            t.over = number(2, 8);
            t.down = number(2, 8);
            word(";");
            while (!atEnd()) {
                Token head = peek();
                String h = head.none ? "?" : head.text;
                if (h.equals("drift")) {
                    i++;
                    int row = number(0, t.down - 1), f = oneOf(FLOWS), a = number(0, t.over - 1), b = number(a, t.over - 1);
                    for (int x = a; x <= b; x++) t.flow[row][x] = f;
                } else if (h.equals("thing")) {
                    if (t.things.size() == 6) throw fault(5);
                    i++;
                    String n = fresh(t);
                    int k = oneOf(KINDS);
                    word("at");
                    t.things.add(new int[] {k, number(0, t.over - 1), number(0, t.down - 1)});
                    t.names.add(n);
                    t.thingNames.add(n);
                } else if (h.equals("lead")) {
                    if (t.leads.size() == 6) throw fault(5);
                    i++;
                    int x = number(0, t.over - 1);
                    if (peek().isNumber()) for (int[] l : t.leads) if (l[0] == x && l[1] == Integer.parseInt(peek().text)) throw fault(3);
                    int y = number(0, t.down - 1);
                    word("round"); int r = number(1, 30);
                    word("from"); int f = number(0, r - 1);
                    word("for"); int l = number(0, r);
                    t.leads.add(new int[] {x, y, r, f, l});
                } else if (h.equals("crew")) {
                    if (t.crews.size() == 2) throw fault(5);
                    i++;
                    int k = t.thingNames.indexOf(name());
                    if (k < 0 || t.things.get(k)[0] != 0) throw fault(2);
                    for (int[] c : t.crews) if (c[0] == k) throw fault(3);
                    i++;
                    word("men"); int m = number(1, 30);
                    word("biscuit"); int b = number(0, 9999);
                    t.crews.add(new int[] {k, m, b});
                } else if (h.equals("pace")) {
                    if (!once.add(h)) throw fault(3);
                    i++;
                    t.pace = number(1, 4);
                } else if (h.equals("gap")) {
                    if (t.gaps.size() == 5) throw fault(5);
                    i++;
                    String n = fresh(t);
                    word("opens"); int o = number(0, 10);
                    word("nips"); int p = number(0, 10);
                    t.gaps.add(new int[] {o, p});
                    t.names.add(n);
                } else if (h.equals("sign")) {
                    if (t.signs.size() == 6) throw fault(5);
                    i++;
                    String n = fresh(t);
                    word("often");
                    t.signs.add(new int[] {number(1, 99)});
                    t.names.add(n);
                } else if (h.equals("load")) {
                    if (t.loads.size() == 6) throw fault(5);
                    i++;
                    String n = fresh(t);
                    word("worth"); int w = number(0, 999);
                    word("takes"); int k = number(1, 9);
                    t.loads.add(new int[] {w, k});
                    t.names.add(n);
                } else if (h.equals("eat") || h.equals("look") || h.equals("break")) {
                    if (!once.add(h)) throw fault(3);
                    i++;
                    facts = new HashSet<>(Arrays.asList((h.equals("eat") ? "crewmen step out" : h.equals("look") ? "day" : "step").split(" ")));
                    Expr e = logic(0);
                    if (h.equals("eat")) t.eat = e; else if (h.equals("look")) t.look = e; else t.brk = e;
                } else throw fault(1);
                word(";");
            }
            return t;
        }

        List<int[]> weeks(Told t) {
            List<int[]> lines = new ArrayList<>();
            while (!atEnd()) {
                int kind = Arrays.asList("drift", "haul", "lend", "home").indexOf(peek().none ? "?" : peek().text);
                if (kind < 0) throw fault(1);
                if (lines.size() == 24) throw fault(5);
                i++;
                int[] line = {kind, -1, 0, 0};
                if (kind > 0) {
                    int thing = t.thingNames.indexOf(name());
                    for (int c = 0; c < t.crews.size(); c++) if (thing >= 0 && t.crews.get(c)[0] == thing) line[1] = c;
                    if (line[1] < 0) throw fault(2);
                    i++;
                }
                if (kind == 0) line[2] = number(1, 30);
                if (kind == 1) { line[2] = number(0, t.over - 1); line[3] = number(0, t.down - 1); }
                if (kind == 2) line[2] = number(1, 999);
                word(";");
                lines.add(line);
            }
            return lines;
        }

        Expr join(Expr a, Expr b, IntBinaryOperator op) { return f -> op.applyAsInt(a.of(f), b.of(f)); }
        Expr logic(int deep) {
            Expr e = test(deep);
            while (true) {
                if (peek().is("and")) { i++; e = join(e, test(deep), (a, b) -> a != 0 && b != 0 ? 1 : 0); }
                else if (peek().is("or")) { i++; e = join(e, test(deep), (a, b) -> a != 0 || b != 0 ? 1 : 0); }
                else return e;
            }
        }
        Expr test(int deep) {
            Expr e = sum(deep);
            if (peek().is("<")) { i++; return join(e, sum(deep), (a, b) -> a < b ? 1 : 0); }
            if (peek().is("=")) { i++; return join(e, sum(deep), (a, b) -> a == b ? 1 : 0); }
            return e;
        }
        Expr sum(int deep) {
            Expr e = product(deep);
            while (true) {
                if (peek().is("+")) { i++; e = join(e, product(deep), (a, b) -> a + b); }
                else if (peek().is("-")) { i++; e = join(e, product(deep), (a, b) -> a - b); }
                else return e;
            }
        }
        Expr product(int deep) {
            Expr e = part(deep);
            while (peek().is("*")) { i++; e = join(e, part(deep), (a, b) -> a * b); }
            return e;
        }
        Expr part(int deep) {
            Token t = peek();
            boolean fact = !t.none && facts.contains(t.text);
            if (!t.isNumber() && !fact && !t.is("not") && !t.is("(")) throw fault(1);
            if (deep == 5) throw fault(5);
            i++;
            if (t.isNumber()) { int n = Integer.parseInt(t.text); return f -> n; }
            if (fact) return f -> f.get(t.text);
            if (t.is("not")) { Expr e = part(deep + 1); return f -> e.of(f) == 0 ? 1 : 0; }
            Expr e = logic(deep + 1);
            word(")");
            return e;
        }
    }

    private static final class World {
        int step;
        int[][] at;        // of things: x, y
        int[][] sledge = new int[2][2];
        boolean[] out = new boolean[2], hauled = new boolean[2];
        int[] biscuit = new int[2], owed = new int[2];
        World copy() {
            World w = new World();
            w.step = step;
            w.at = new int[at.length][];
            for (int i = 0; i < at.length; i++) w.at[i] = at[i].clone();
            for (int i = 0; i < 2; i++) w.sledge[i] = sledge[i].clone();
            w.out = out.clone(); w.hauled = hauled.clone(); w.biscuit = biscuit.clone(); w.owed = owed.clone();
            return w;
        }
    }

    private static final class Model {
        String tape = "";
        Told told = new Told();
        List<int[]> lines = new ArrayList<>();
        World world = begin();
        List<World> past = new ArrayList<>();
        List<int[]> seen = new ArrayList<>();
        World[] marks = new World[4];
        List<List<int[]>> markSeen = new ArrayList<>(Arrays.asList(null, null, null, null));
        Map<String, Integer> memo = new HashMap<>();

        World begin() {
            World w = new World();
            w.at = new int[told.things.size()][];
            for (int i = 0; i < w.at.length; i++) w.at[i] = new int[] {told.things.get(i)[1], told.things.get(i)[2]};
            for (int i = 0; i < told.crews.size(); i++) w.biscuit[i] = told.crews.get(i)[2];
            return w;
        }
        boolean place(int x, int y) { return x >= 0 && y >= 0 && x < told.over && y < told.down; }
        int[] go(int[] p, int way) {
            int[] q = {p[0] + new int[] {0, 1, 0, -1, 0}[way], p[1] + new int[] {-1, 0, 1, 0, 0}[way]};
            return place(q[0], q[1]) ? q : p.clone();
        }
        int[] drifted(int[] p, int steps) {
            for (int i = 0; i < steps; i++) p = go(p, told.flow[p[1]][p[0]]);
            return p;
        }
        boolean isOpen(int x, int y, int t) {
            for (int[] l : told.leads) if (l[0] == x && l[1] == y && ((t - l[3]) % l[2] + l[2]) % l[2] < l[4]) return true;
            return false;
        }
        int clamp(int v, int hi) { return v < 0 ? 0 : v > hi ? hi : v; }
        int eats(World w, int c, int step) {
            Map<String, Integer> f = new HashMap<>();
            f.put("crewmen", told.crews.get(c)[1]); f.put("step", step); f.put("out", w.out[c] ? 1 : 0);
            return clamp(told.eat.of(f), 99);
        }
        int stepOn(World w) {
            int eaten = 0;
            for (int c = 0; c < told.crews.size(); c++) {
                w.hauled[c] = false;
                int e = eats(w, c, w.step);
                int was = w.biscuit[c];
                w.biscuit[c] = Math.max(0, was - e);
                eaten += was - w.biscuit[c];
            }
            for (int i = 0; i < w.at.length; i++) w.at[i] = drifted(w.at[i], 1);
            for (int c = 0; c < told.crews.size(); c++) if (w.out[c]) w.sledge[c] = drifted(w.sledge[c], 1);
            w.step++;
            return eaten;
        }
        int[] ship(World w, int c) { return w.at[told.crews.get(c)[0]]; }
        int[] sledge(World w, int c) { return w.out[c] ? w.sledge[c] : ship(w, c); }

        // every path of single moves is walked
        boolean canCome(int[] p, int[] goal, int left, int t) {
            if (Arrays.equals(p, goal)) return true;
            if (left == 0) return false;
            for (int way = 0; way < 4; way++) {
                int[] q = go(p, way);
                if (!Arrays.equals(p, q) && !isOpen(q[0], q[1], t) && canCome(q, goal, left - 1, t)) return true;
            }
            return false;
        }
        int act(World w, int kind, int c, int a, int b) {
            if (kind == 0) { for (int i = 0; i < a; i++) stepOn(w); return w.step; }
            if (c < 0 || c >= told.crews.size()) return -1;
            if (kind == 1) {
                int[] from = sledge(w, c), to = {a, b};
                if (w.hauled[c] || !place(a, b) || Arrays.equals(from, to) || !canCome(from, to, told.pace, w.step)) return -1;
                w.out[c] = true; w.hauled[c] = true; w.sledge[c] = to;
                return 0;
            }
            if (kind == 2) {
                if (told.crews.size() < 2 || !w.out[c] || w.biscuit[c] == 0 || !Arrays.equals(w.sledge[c], ship(w, 1 - c))) return -1;
                int n = Math.min(a, w.biscuit[c]);
                w.biscuit[c] -= n; w.biscuit[1 - c] += n; w.owed[c] += n; w.owed[1 - c] -= n;
                return n;
            }
            if (!w.out[c] || !Arrays.equals(w.sledge[c], ship(w, c))) return -1;
            w.out[c] = false;
            return 0;
        }
        int byHand(int kind, int c, int a, int b) {
            World before = world.copy();
            int r = act(world, kind, c, a, b);
            if (r != -1) { past.add(before); if (past.size() > 16) past.remove(0); }
            return r;
        }

        int feed(long a, long b, long c) {
            StringBuilder s = new StringBuilder(tape);
            for (long v : new long[] {a, b, c}) for (int k = 7; k >= 0; k--) {
                int sign = (int) ((v >>> (8 * k)) & 255);
                if ((sign == 10 || sign >= 32 && sign <= 126) && s.length() < 1000) s.append((char) sign);
            }
            tape = s.toString();
            return tape.length();
        }
        int pack() {
            String text = tape;
            tape = "";
            try { told = new Parser(text).pack(); } catch (Fault f) { return f.number; }
            lines = new ArrayList<>(); world = begin(); past.clear(); seen = new ArrayList<>(); marks = new World[4]; memo.clear();
            return 0;
        }
        int weeks() {
            String text = tape;
            tape = "";
            try { lines = new Parser(text).weeks(told); } catch (Fault f) { return f.number; }
            return 0;
        }
        boolean isThing(int t) { return t >= 0 && t < told.things.size(); }
        boolean isCrew(int c) { return c >= 0 && c < told.crews.size(); }
        int judged(int what) {
            if (what < 0 || what > 2) return -2;
            World w = begin();
            int wrong = -1;
            for (int i = 0; i < lines.size(); i++) {
                int[] l = lines.get(i);
                if (act(w, l[0], l[1], l[2], l[3]) == -1 && wrong == -1) wrong = i;
            }
            return what == 0 ? wrong : what == 1 ? w.step : w.biscuit[0] + w.biscuit[1];
        }
        int where(int thing, int steps) {
            if (!isThing(thing) || steps < 0 || steps > 200) return -1;
            int[] p = drifted(world.at[thing], steps);
            return p[0] + 8 * p[1];
        }
        int meet(int a, int b) {
            if (!isThing(a) || !isThing(b) || a == b) return -1;
            for (int k = 0; k <= 200; k++) if (where(a, k) == where(b, k)) return k;
            return -1;
        }
        void walk(int[] p, int left, int t, Set<Integer> come, Map<Integer, Integer> been) {
            int place = p[0] + 8 * p[1];
            if (been.getOrDefault(place, -1) >= left) return;
            been.put(place, left);
            come.add(place);
            for (int way = 0; way < 4 && left > 0; way++) {
                int[] q = go(p, way);
                if (!isOpen(q[0], q[1], t)) walk(q, left - 1, t, come, been);
            }
        }
        int reach(int from, int to, int start) {
            if (!isThing(from) || !isThing(to) || from == to || start < 0 || start > 60) return -1;
            Set<Integer> at = new HashSet<>();
            int p0 = where(from, start);
            at.add(p0);
            for (int k = start; k <= 120; k++) {
                int goal = where(to, k);
                Set<Integer> hauled = new HashSet<>(at);
                for (int p : at) walk(new int[] {p % 8, p / 8}, told.pace, world.step + k, hauled, new HashMap<>());
                if (hauled.contains(goal)) return k;
                at = new HashSet<>();
                for (int p : hauled) { int[] q = drifted(new int[] {p % 8, p / 8}, 1); at.add(q[0] + 8 * q[1]); }
            }
            return -1;
        }
        int setout(int from, int to) {
            int due = reach(from, to, 0), best = due == -1 ? -1 : 0;
            for (int s = 1; s <= 60 && s <= due; s++) { int r = reach(from, to, s); if (r != -1 && r <= due) best = s; }
            return best;
        }
        int bearing(int[] from, int[] to) {
            int dx = to[0] - from[0], dy = to[1] - from[1];
            if (dx == 0 && dy == 0) return 0;
            if (dx == 0) return dy < 0 ? 1 : 5;
            if (dy == 0) return dx > 0 ? 3 : 7;
            return dy < 0 ? (dx > 0 ? 2 : 8) : (dx > 0 ? 4 : 6);
        }
        boolean see(int thing, int steps, int bearing) {
            if (!isThing(thing) || steps < 0 || steps > 40 || bearing < 0 || bearing > 8 || seen.size() == 8) return false;
            seen.add(new int[] {thing, world.step + steps, bearing});
            return true;
        }
        /** Walks step by step from the first sight (or now) to the last one (or now). */
        long fits() {
            int first = world.step, last = world.step;
            for (int[] s : seen) { first = Math.min(first, s[1]); last = Math.max(last, s[1]); }
            long bits = 0;
            for (int x = 0; x < told.over; x++) for (int y = 0; y < told.down; y++) {
                int[] hut = {x, y};
                boolean ok = true;
                long here = 0;
                for (int t = first; t <= last; t++) {
                    for (int[] s : seen) {
                        int[] thing = {told.things.get(s[0])[1], told.things.get(s[0])[2]};
                        if (s[1] == t) ok &= bearing(drifted(thing, t), hut) == s[2];
                    }
                    if (t == world.step) here = 1L << (hut[0] + 8 * hut[1]);
                    hut = drifted(hut, 1);
                }
                if (ok) bits |= here;
            }
            return bits;
        }
        int tells() {
            long fit = fits();
            int best = -1, least = Long.bitCount(fit);
            for (int t = 0; t < told.things.size(); t++) for (int k = 0; k <= 12; k++) {
                int[] n = new int[9];
                for (int p = 0; p < 64; p++) if ((fit >> p & 1) == 1) n[bearing(drifted(world.at[t], k), drifted(new int[] {p % 8, p / 8}, k))]++;
                int most = Arrays.stream(n).max().getAsInt();
                if (most < least) { least = most; best = t * 13 + k; }
            }
            return best;
        }
        int lastsWith(int c, int b) {
            int k = 0;
            while (k < 200 && b >= eats(world, c, world.step + k)) { b -= eats(world, c, world.step + k); k++; }
            return k;
        }
        int lasts(int c) { return isCrew(c) ? lastsWith(c, world.biscuit[c]) : -1; }
        int share() {
            if (told.crews.size() < 2) throw new NoSuchElementException();
            int best = 0, most = -1;
            for (int much = 0; much <= Math.max(world.biscuit[0], world.biscuit[1]); much++) for (int sign = 1; sign >= -1; sign -= 2) {
                int d = much * sign;
                if (d > world.biscuit[0] || -d > world.biscuit[1]) continue;
                int less = Math.min(lastsWith(0, world.biscuit[0] - d), lastsWith(1, world.biscuit[1] + d));
                if (less > most) { most = less; best = d; }
            }
            return best;
        }
        // wide -1: shut
        int chance(int g, int wide, int days) {
            if (g == told.gaps.size()) return 1000000;
            if (days == 0) return 0;
            String key = g + "/" + wide + "/" + days;
            if (memo.containsKey(key)) return memo.get(key);
            int o = told.gaps.get(g)[0];
            int r = wide < 0 ? (o * onDay(g, 0, days - 1) + (10 - o) * chance(g, -1, days - 1)) / 10
                : (2 * chance(g, -1, days - 1) + 8 * onDay(g, Math.min(2, wide + 1), days - 1)) / 10;
            memo.put(key, r);
            return r;
        }
        int going(int g, int wide, int days) { return (10 - Math.max(0, told.gaps.get(g)[1] - 2 * wide)) * chance(g + 1, -1, days) / 10; }
        int onDay(int g, int wide, int days) { return Math.max(going(g, wide, days), chance(g, wide, days)); }
        int through(int g, int days) { return g < 0 || g > told.gaps.size() || days < 0 || days > 40 ? -1 : chance(g, -1, days); }
        int now(int g, int wide, int days) {
            if (g < 0 || g >= told.gaps.size() || wide < 0 || wide > 2 || days < 0 || days > 40) return -1;
            return going(g, wide, days) >= chance(g, wide, days) ? 1 : 0;
        }
        int[] look(int a, int b) {
            String key = "look" + a + "/" + b;
            if (memo.containsKey(key)) return new int[] {memo.get(key), memo.get("day" + key)};
            int best = a == b ? 0 : Integer.MAX_VALUE, day = -1;
            for (int d = a; d < b; d++) {
                Map<String, Integer> f = new HashMap<>();
                f.put("day", d);
                int cost = clamp(told.look.of(f), 99) + Math.max(look(a, d)[0], look(d + 1, b)[0]);
                if (cost < best) { best = cost; day = d; }
            }
            memo.put(key, best);
            memo.put("day" + key, day);
            return new int[] {best, day};
        }
        int lost(int days, int what) { return days < 1 || days > 30 || what < 0 || what > 1 ? -1 : look(1, days)[what]; }

        int codeTotal; int[] codeRows;
        static int cost(String s) { int n = 0; for (char c : s.toCharArray()) n += c - '0'; return n; }
        // every choice of rows, none beginning with another, costs never falling from the most often on
        void tryRows(List<Integer> order, List<String> all, List<String> rows) {
            if (rows.size() == order.size()) {
                int total = 0;
                int[] lens = new int[rows.size()];
                for (int i = 0; i < lens.length; i++) { lens[i] = cost(rows.get(i)); total += lens[i] * told.signs.get(order.get(i))[0]; }
                if (codeRows == null || total < codeTotal || total == codeTotal && Arrays.compare(lens, codeRows) < 0) { codeTotal = total; codeRows = lens; }
                return;
            }
            int sum = 0;
            for (int i = 0; i < rows.size(); i++) sum += cost(rows.get(i)) * told.signs.get(order.get(i))[0];
            for (String s : all) {
                if (!rows.isEmpty() && cost(s) < cost(rows.get(rows.size() - 1))) continue;
                int least = sum;
                for (int i = rows.size(); i < order.size(); i++) least += cost(s) * told.signs.get(order.get(i))[0];
                if (codeRows != null && least > codeTotal) continue;
                boolean ok = true;
                for (String r : rows) ok &= !s.startsWith(r) && !r.startsWith(s);
                if (!ok) continue;
                rows.add(s);
                tryRows(order, all, rows);
                rows.remove(rows.size() - 1);
            }
        }
        int code(int sign) {
            int n = told.signs.size();
            if (n == 0 || sign < -1 || sign >= n) return -2;
            List<Integer> order = new ArrayList<>();
            for (int i = 0; i < n; i++) order.add(i);
            order.sort((a, b) -> told.signs.get(b)[0] - told.signs.get(a)[0]);
            List<String> all = new ArrayList<>();
            int most = Math.max(1, 2 * (n - 1));
            List<String> grow = new ArrayList<>(Arrays.asList(""));
            while (!grow.isEmpty()) {
                List<String> next = new ArrayList<>();
                for (String s : grow) for (String b : new String[] {"1", "2"}) if (cost(s + b) <= most) { all.add(s + b); next.add(s + b); }
                grow = next;
            }
            codeRows = null;
            tryRows(order, all, new ArrayList<>());
            return sign == -1 ? codeTotal : codeRows[order.indexOf(sign)];
        }
        long[] load(Set<Integer> out, int t) {
            long best = 0, first = -1;
            for (int i = 0; i < told.loads.size(); i++) if (!out.contains(i)) {
                int[] l = told.loads.get(i);
                Set<Integer> then = new HashSet<>(out);
                then.add(i);
                long v = l[0] * 1000L + load(then, t + l[1])[0], ten = 1;
                for (int k = 0; k < l[1]; k++) {
                    Map<String, Integer> f = new HashMap<>();
                    f.put("step", t + k);
                    v *= 10 - clamp(told.brk.of(f), 10);
                    ten *= 10;
                }
                v /= ten;
                if (first == -1 || v > best) { best = v; first = i; }
            }
            return new long[] {best, first};
        }
        int carry(int what) { return what < 0 || what > 1 ? -2 : (int) load(new HashSet<>(), 0)[what]; }
        int months(int seed, int steps, int what) {
            if (seed < 0 || seed > 9999 || steps < 1 || steps > 100 || what < 0 || what > 2) return -1;
            World w = world.copy();
            long g = seed;
            int[] sums = new int[3];
            for (int s = 0; s < steps; s++) {
                for (int i = 0; i < w.at.length; i++) if (told.things.get(i)[0] == 2) {
                    g = (g * 1103515245L + 12345L) & 0x7fffffffL;
                    int d = (int) ((g >> 16) % 10);
                    if (d < 4) w.at[i] = go(w.at[i], d);
                }
                sums[1] += stepOn(w);
                for (int i = 0; i < w.at.length; i++) if (told.things.get(i)[0] == 2) {
                    boolean there = false;
                    for (int j = 0; j < w.at.length; j++) there |= told.things.get(j)[0] < 2 && Arrays.equals(w.at[i], w.at[j]);
                    if (there) sums[0]++;
                }
                boolean none = false;
                for (int c = 0; c < told.crews.size(); c++) none |= w.biscuit[c] == 0;
                if (none) sums[2]++;
            }
            return sums[what];
        }
        boolean mark(int m, boolean back) {
            if (m < 0 || m > 3 || back && marks[m] == null) return false;
            if (back) { world = marks[m].copy(); seen = new ArrayList<>(markSeen.get(m)); past.clear(); }
            else { marks[m] = world.copy(); markSeen.set(m, new ArrayList<>(seen)); }
            return true;
        }
        int count(int what) {
            int[] all = {told.over, told.down, told.things.size(), told.leads.size(), told.crews.size(), world.step, told.gaps.size(),
                told.signs.size(), told.loads.size(), lines.size(), seen.size(), past.size(), tape.length()};
            return what < 0 || what >= all.length ? -1 : all[what];
        }
        int thing(int t, int what) {
            if (!isThing(t) || what < 0 || what > 3) throw new NoSuchElementException();
            int crew = -1;
            for (int c = 0; c < told.crews.size(); c++) if (told.crews.get(c)[0] == t) crew = c;
            return new int[] {told.things.get(t)[0], world.at[t][0], world.at[t][1], crew}[what];
        }
        int crew(int c, int what) {
            if (!isCrew(c) || what < 0 || what > 7) throw new NoSuchElementException();
            int[] p = sledge(world, c);
            return new int[] {told.crews.get(c)[0], told.crews.get(c)[1], world.biscuit[c], world.owed[c], world.out[c] ? 1 : 0, p[0], p[1], world.hauled[c] ? 1 : 0}[what];
        }
    }

    // ---- calls, by name, on both ----

    private interface Answer { long get(); }
    private static String said(Answer a) { try { return Long.toString(a.get()); } catch (NoSuchElementException e) { return THROWS; } }
    private static long num(boolean b) { return b ? 1 : 0; }

    private static String[] ask(PackWeeks x, Model m, String call, int a, int b, int c) {
        switch (call) {
            case "flow": return both(() -> x.flow(a, b), () -> m.place(a, b) ? m.told.flow[b][a] : -1);
            case "open": return both(() -> x.open(a, b, c), () -> !m.place(a, b) || c < 0 || c > 200 ? -1 : num(m.isOpen(a, b, m.world.step + c)));
            case "thing": return both(() -> x.thing(a, b), () -> m.thing(a, b));
            case "crew": return both(() -> x.crew(a, b), () -> m.crew(a, b));
            case "drift": return both(() -> x.drift(a), () -> a < 1 || a > 30 ? -1 : m.byHand(0, -1, a, 0));
            case "haul": return both(() -> num(x.haul(a, b, c)), () -> num(m.byHand(1, a, b, c) != -1));
            case "lend": return both(() -> x.lend(a, b), () -> b < 1 || b > 999 ? -1 : m.byHand(2, a, b, 0));
            case "home": return both(() -> num(x.home(a)), () -> num(m.byHand(3, a, 0, 0) != -1));
            case "undo": return both(() -> num(x.undo()), () -> { if (m.past.isEmpty()) return 0; m.world = m.past.remove(m.past.size() - 1); return 1; });
            case "judged": return both(() -> x.judged(a), () -> m.judged(a));
            case "where": return both(() -> x.where(a, b), () -> m.where(a, b));
            case "meet": return both(() -> x.meet(a, b), () -> m.meet(a, b));
            case "reach": return both(() -> x.reach(a, b, c), () -> m.reach(a, b, c));
            case "setout": return both(() -> x.setout(a, b), () -> m.setout(a, b));
            case "see": return both(() -> num(x.see(a, b, c)), () -> num(m.see(a, b, c)));
            case "fits": return both(() -> x.fits(), () -> m.fits());
            case "tells": return both(() -> x.tells(), () -> m.tells());
            case "lasts": return both(() -> x.lasts(a), () -> m.lasts(a));
            case "share": return both(() -> x.share(), () -> m.share());
            case "through": return both(() -> x.through(a, b), () -> m.through(a, b));
            case "now": return both(() -> x.now(a, b, c), () -> m.now(a, b, c));
            case "lost": return both(() -> x.lost(a, b), () -> m.lost(a, b));
            case "code": return both(() -> x.code(a), () -> m.code(a));
            case "carry": return both(() -> x.carry(a), () -> m.carry(a));
            case "months": return both(() -> x.months(a, b, c), () -> m.months(a, b, c));
            case "mark": return both(() -> num(x.mark(a, b != 0)), () -> num(m.mark(a, b != 0)));
            case "count": return both(() -> x.count(a), () -> m.count(a));
            case "pack": return both(() -> x.pack(), () -> m.pack());
            case "weeks": return both(() -> x.weeks(), () -> m.weeks());
            default: throw new IllegalStateException(call);
        }
    }
    private static String[] both(Answer a, Answer b) { return new String[] {said(a), said(b)}; }

    // ---- random runs ----

    private static Random r;
    private static List<String> row;
    private static int wrong = 0;
    private static int asked = 0;
    private static int packsRead = 0, packsFaulty = 0;
    private static int up(int lo, int hi) { return lo + r.nextInt(hi - lo + 1); }
    private static String pick(String... all) { return all[r.nextInt(all.length)]; }

    private static String part(String facts, int deep) {
        int k = r.nextInt(10);
        if (k < 3 || deep > 5) return Integer.toString(pick("a", "b").equals("a") ? r.nextInt(12) : r.nextInt(10000));
        if (k < 7) return pick(facts.split(" "));
        if (k < 8) return "not " + part(facts, deep + 1);
        return "( " + expr(facts, deep + 1) + " )";
    }
    private static String expr(String facts, int deep) {
        StringBuilder s = new StringBuilder(part(facts, deep));
        boolean tested = false;
        for (int n = r.nextInt(deep == 0 ? 6 : 3); n > 0; n--) {
            String op = pick("+", "-", "*", "<", "=", "and", "or");
            if (op.equals("<") || op.equals("=")) { if (tested) op = "+"; else tested = true; }
            if (op.equals("and") || op.equals("or")) tested = false;
            s.append(' ').append(op).append(' ').append(part(facts, deep));
        }
        return s.toString();
    }

    private static String randomPack(boolean small) {
        int over = small ? up(2, 4) : up(2, 8), down = small ? up(2, 4) : up(2, 8);
        StringBuilder s = new StringBuilder("grid " + over + " " + down + " ; ");
        if (r.nextInt(3) == 0) {
            // a current that goes round by the rim
            s.append("drift 0 east 0 " + (over - 1) + " ; ");
            for (int y = 0; y < down; y++) s.append("drift " + y + " south " + (over - 1) + " " + (over - 1) + " ; drift " + y + " north 0 0 ; ");
            s.append("drift " + (down - 1) + " west 1 " + (over - 1) + " ; drift 0 east 0 " + (over - 2) + " ; ");
        }
        for (int n = r.nextInt(8); n > 0; n--) {
            int a = r.nextInt(over);
            s.append("drift " + r.nextInt(down) + " " + pick("north", "east", "south", "west", "still") + " " + a + " " + up(a, over - 1) + " ; ");
        }
        String[] names = {"a", "fram", "hope", "nan", "step", "out", "day", "crewmen", "abcdefgh", "b", "c", "d", "e", "f", "g", "h", "i", "j", "k", "l", "m", "n", "o", "p", "q", "s", "t", "u"};
        int next = r.nextInt(3);
        List<String> ships = new ArrayList<>();
        for (int n = r.nextInt(7); n > 0 && next < names.length; n--) {
            String kind = pick("ship", "ship", "hut", "bear", "cairn");
            String name = names[next++];
            if (kind.equals("ship")) ships.add(name);
            s.append("thing " + name + " " + kind + " at " + r.nextInt(over) + " " + r.nextInt(down) + " ; ");
        }
        for (int n = 0; n < ships.size() && n < 2; n++) s.append("crew " + ships.get(n) + " men " + up(1, 30) + " biscuit " + pick("0", "7", "40", "150", "999", "9999", Integer.toString(r.nextInt(2000))) + " ; ");
        Set<Integer> used = new HashSet<>();
        for (int n = r.nextInt(7); n > 0; n--) {
            int x = r.nextInt(over), y = r.nextInt(down), round = r.nextInt(3) == 0 ? up(1, 30) : up(1, 4);
            if (used.add(x + 8 * y)) s.append("lead " + x + " " + y + " round " + round + " from " + r.nextInt(round) + " for " + r.nextInt(round + 1) + " ; ");
        }
        if (r.nextInt(2) == 0) s.append("pace " + up(1, 4) + " ; ");
        for (int n = r.nextInt(6); n > 0 && next < names.length; n--) s.append("gap " + names[next++] + " opens " + r.nextInt(11) + " nips " + r.nextInt(11) + " ; ");
        for (int n = r.nextInt(7); n > 0 && next < names.length; n--) s.append("sign " + names[next++] + " often " + (r.nextInt(2) == 0 ? up(1, 5) : up(1, 99)) + " ; ");
        for (int n = r.nextInt(7); n > 0 && next < names.length; n--) s.append("load " + names[next++] + " worth " + r.nextInt(1000) + " takes " + up(1, 9) + " ; ");
        if (r.nextInt(2) == 0) s.append("eat " + expr("crewmen step out", 0) + " ; ");
        if (r.nextInt(2) == 0) s.append("look " + expr("day", 0) + " ; ");
        if (r.nextInt(2) == 0) s.append("break " + expr("step", 0) + " ; ");
        return s.toString();
    }

    private static String randomWeeks(Model m) {
        StringBuilder s = new StringBuilder();
        for (int n = r.nextInt(r.nextInt(6) == 0 ? 29 : 14); n > 0; n--) {
            String crew = m.told.crews.isEmpty() ? "fram" : m.told.thingNames.get(m.told.crews.get(r.nextInt(m.told.crews.size()))[0]);
            switch (r.nextInt(5)) {
                case 0: s.append("drift " + up(1, r.nextBoolean() ? 3 : 30) + " ; "); break;
                case 1: s.append("lend " + crew + " " + up(1, 999) + " ; "); break;
                case 2: s.append("home " + crew + " ; "); break;
                default: s.append("haul " + crew + " " + r.nextInt(m.told.over) + " " + r.nextInt(m.told.down) + " ; ");
            }
        }
        return s.toString();
    }

    private static String spoiled(String text) {
        List<String> t = new ArrayList<>(Arrays.asList(text.trim().split(" ")));
        for (int n = up(1, 2); n > 0; n--) {
            int i = r.nextInt(t.size());
            String odd = pick("grid", "thing", "lead", "crew", "pace", "pace 1 ;", "gap", "sign", "load", "eat", "look 1 ;", "break 0 ;", "0", "1", "5", "9", "10", "31", "100", "9999", "12345", "(", ")",
                "<", "=", "+", "-", "*", ";", "not", "and", "or", "ship", "north", "fram", "zz", "abcdefghi", "A", "#", "at", "drift", "haul", "2x", "x2", "lead 0 0 round 2 from 0 for 1 ;",
                "thing zz hut at 0 0 ;", "sign yy often 3 ;", "load xx worth 1 takes 1 ;", "gap ww opens 1 nips 1 ;", "eat step < 3 = 1 ;", "not not not not not", "((((( 1");
            switch (r.nextInt(4)) {
                case 0: t.set(i, odd); break;
                case 1: t.add(i, odd); break;
                case 2: if (t.size() > 1) t.remove(i); break;
                default: t.subList(i + 1 > t.size() ? i : Math.min(i + 1, t.size()), t.size()).clear();
            }
        }
        return String.join(" ", t);
    }

    private static String respaced(String text) {
        StringBuilder s = new StringBuilder();
        for (int i = 0; i < text.length(); i++) {
            char c = text.charAt(i);
            boolean letters = i > 0 && i + 1 < text.length() && Character.isLetter(text.charAt(i - 1)) && Character.isLetter(text.charAt(i + 1));
            boolean digits = i > 0 && i + 1 < text.length() && Character.isDigit(text.charAt(i - 1)) && Character.isDigit(text.charAt(i + 1));
            if (c == ' ' && !letters && !digits && r.nextInt(4) != 0) continue;
            s.append(c == ' ' && r.nextInt(8) == 0 ? "\n" : c == ' ' && r.nextInt(8) == 0 ? "  " : String.valueOf(c));
        }
        return s.toString();
    }

    private static boolean feedAll(PackWeeks x, Model m, String text) {
        for (int i = 0; i < text.length(); i += 24) {
            long[] v = new long[3];
            for (int k = 0; k < 24; k++) v[k / 8] = v[k / 8] << 8 | (i + k < text.length() ? text.charAt(i + k) : r.nextInt(4) == 0 ? 200 : 0);
            long got = x.feed(v[0], v[1], v[2]), want = m.feed(v[0], v[1], v[2]);
            if (got != want) { report("feed", Long.toString(got), Long.toString(want)); return false; }
        }
        return true;
    }

    private static void report(String call, String got, String want) {
        wrong++;
        if (wrong <= 10) {
            System.out.println(call + " answered " + got + ", due is " + want + ", behind:");
            for (String s : row) System.out.println("    " + s);
        }
    }

    private static boolean call(PackWeeks x, Model m, String name, int a, int b, int c) {
        String[] got = ask(x, m, name, a, b, c);
        asked++;
        String text = name + "(" + a + ", " + b + ", " + c + ")";
        if (!got[0].equals(got[1])) { report(text, got[0], got[1]); return false; }
        row.add(text + " " + got[0]);
        return true;
    }

    private static boolean tell(PackWeeks x, Model m, String reads, String text) {
        String tape = respaced(text);
        row.add("'" + tape + "'");
        if (!feedAll(x, m, tape)) return false;
        String[] got = ask(x, m, reads, 0, 0, 0);
        if (!got[0].equals(got[1])) { report(reads, got[0], got[1]); return false; }
        if (got[0].equals("0")) packsRead++; else packsFaulty++;
        row.add(reads + " " + got[0]);
        return true;
    }

    private static boolean randomCall(PackWeeks x, Model m) {
        int things = Math.max(1, m.told.things.size());
        int t = r.nextInt(12) == 0 ? up(-1, 6) : r.nextInt(things), u = r.nextInt(12) == 0 ? up(-1, 6) : r.nextInt(things);
        int c = r.nextInt(12) == 0 ? up(-1, 2) : r.nextInt(2);
        int px = r.nextInt(12) == 0 ? up(-1, 8) : r.nextInt(m.told.over), py = r.nextInt(12) == 0 ? up(-1, 8) : r.nextInt(m.told.down);
        switch (r.nextInt(38)) {
            case 0: return call(x, m, "flow", px, py, 0);
            case 1: return call(x, m, "open", px, py, up(-1, 201));
            case 2: return call(x, m, "thing", t, up(-1, 4), 0);
            case 3: case 4: return call(x, m, "crew", c, up(-1, 8), 0);
            case 5: case 6: case 7: return call(x, m, "drift", r.nextInt(8) == 0 ? up(-1, 31) : up(1, 3), 0, 0);
            case 8: case 9: case 10: case 11: {
                if (m.isCrew(c) && r.nextInt(2) == 0) {
                    int[] p = m.ship(m.world, r.nextInt(m.told.crews.size()));
                    return call(x, m, "haul", c, p[0], p[1]);
                }
                return call(x, m, "haul", c, px, py);
            }
            case 12: case 13: return call(x, m, "lend", c, r.nextInt(6) == 0 ? up(-1, 1001) : up(1, 60), 0);
            case 14: case 15: return call(x, m, "home", c, 0, 0);
            case 16: return call(x, m, "undo", 0, 0, 0);
            case 17: return call(x, m, "judged", up(-1, 3), 0, 0);
            case 18: return call(x, m, "where", t, up(-1, 201), 0);
            case 19: return call(x, m, "meet", t, u, 0);
            case 20: return call(x, m, "reach", t, u, r.nextInt(8) == 0 ? up(-1, 61) : up(0, 5));
            case 21: return r.nextInt(3) != 0 || call(x, m, "setout", t, u, 0);
            case 22: {
                if (m.isThing(t) && r.nextInt(3) != 0) {
                    // a sight that some PLACE agrees with
                    int k = up(0, 12);
                    int[] hut = {r.nextInt(m.told.over), r.nextInt(m.told.down)};
                    return call(x, m, "see", t, k, m.bearing(m.drifted(m.world.at[t], k), m.drifted(hut, k)));
                }
                return call(x, m, "see", t, up(-1, 41), up(-1, 9));
            }
            case 23: case 24: return call(x, m, "fits", 0, 0, 0);
            case 25: return call(x, m, "tells", 0, 0, 0);
            case 26: return call(x, m, "lasts", c, 0, 0);
            case 27: return m.world.biscuit[0] + m.world.biscuit[1] > 2500 || call(x, m, "share", 0, 0, 0);
            case 28: return call(x, m, "through", up(-1, 6), r.nextInt(4) == 0 ? up(-1, 41) : up(0, 12), 0);
            case 29: return call(x, m, "now", up(-1, 5), up(-1, 3), r.nextInt(4) == 0 ? up(-1, 41) : up(0, 12));
            case 30: return call(x, m, "lost", up(-1, 31), up(-1, 2), 0);
            case 31: return m.told.signs.size() > 4 && r.nextInt(8) != 0 || call(x, m, "code", up(-2, 6), 0, 0);
            case 32: return call(x, m, "carry", up(-1, 2), 0, 0);
            case 33: return call(x, m, "months", r.nextInt(8) == 0 ? up(-1, 10000) : up(0, 9999), up(-1, 101), up(-1, 3));
            case 34: return call(x, m, "mark", r.nextInt(6) == 0 ? up(-1, 4) : up(0, 1), r.nextInt(2), 0);
            default: return call(x, m, "count", up(-1, 13), 0, 0);
        }
    }

    private static void run(long seed) {
        r = new Random(seed);
        row = new ArrayList<>();
        row.add("seed " + seed);
        PackWeeks x = new PackWeeks();
        Model m = new Model();
        boolean small = r.nextInt(2) == 0;
        for (int packs = 0; packs < 3; packs++) {
            for (int n = r.nextInt(4); n > 0; n--) if (!tell(x, m, "pack", spoiled(randomPack(small)))) return;
            if (!tell(x, m, "pack", randomPack(small))) return;
            if (r.nextInt(3) == 0 && !tell(x, m, "weeks", spoiled(randomWeeks(m) + "drift 1 ;"))) return;
            if (!tell(x, m, "weeks", randomWeeks(m))) return;
            for (int i = 0; i < 70; i++) if (!randomCall(x, m)) return;
        }
    }

    public static void main(String[] args) {
        int runs = args.length > 0 ? Integer.parseInt(args[0]) : 1500;
        int first = args.length > 1 ? Integer.parseInt(args[1]) : 1;
        for (int seed = first; seed < first + runs; seed++) run(seed);
        System.out.println(asked + " calls asked, " + packsRead + " texts read, " + packsFaulty + " texts faulty, " + wrong + " answers not as due");
        if (wrong != 0) System.exit(1);
    }
}
