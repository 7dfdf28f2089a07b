import java.util.ArrayList;
import java.util.HashMap;
import java.util.List;
import java.util.Map;

/**
 * The document once more, as plainly as can be and in another way than the program: answers by trying
 * all there is, laws as trees. RandomRunsTest holds the program against it.
 */
final class PlainMud implements Cloneable {
    interface Value { int of(int[] words); }

    static final class Fault extends RuntimeException {
        private static final long serialVersionUID = 1L;
        final int number;
        final int place;
        Fault(int number, int place) { this.number = number; this.place = place; }
    }

    static final class Law {
        Value take;
        Value lose;
        List<Value> fresh = new ArrayList<>();
        List<Value> falls = new ArrayList<>();
    }

    final int a;
    final int b;
    int[][] dug;
    int[] carried;
    boolean[] barred;
    List<int[]> boot = new ArrayList<>();
    int bound = 150;
    int pace = 10;
    int keep = 0;
    int missing = 300;
    int odd = 400;
    int start = 0;
    int[][] flowers = new int[5][];
    List<Law> laws = new ArrayList<>();
    int theLaw = -1;
    List<List<int[]>> stories = new ArrayList<>();
    List<int[]> verdicts = new ArrayList<>();
    String tape = "";
    int[] fault = null;
    PlainMud image;

    PlainMud(int a, int b) {
        this.a = Math.min(8, Math.max(3, a));
        this.b = Math.min(8, Math.max(3, b));
        dug = new int[this.a * this.b][];
        carried = new int[this.a * this.b];
        java.util.Arrays.fill(carried, -1);
        barred = new boolean[this.a * this.b];
        for (int i = 0; i < 4; i++) stories.add(new ArrayList<>());
        image = copy();
    }

    private PlainMud copy() {
        try {
            PlainMud c = (PlainMud) clone();
            c.dug = dug.clone();
            c.carried = carried.clone();
            c.barred = barred.clone();
            c.boot = new ArrayList<>(boot);
            c.flowers = flowers.clone();
            c.laws = new ArrayList<>(laws);
            c.stories = new ArrayList<>();
            for (List<int[]> s : stories) c.stories.add(new ArrayList<>(s));
            c.verdicts = new ArrayList<>(verdicts);
            return c;
        } catch (CloneNotSupportedException e) {
            throw new IllegalStateException(e);
        }
    }

    boolean cell(int c) { return c >= 0 && c < a * b; }
    static boolean in(int v, int least, int most) { return v >= least && v <= most; }
    static int sum(int[] v) { int s = 0; for (int x : v) s += x; return s; }
    int dugs() { int n = 0; for (int[] d : dug) if (d != null) n++; return n; }

    static boolean grains(int[] v, int most) {
        for (int x : v) if (!in(x, 0, most)) return false;
        return sum(v) > 0;
    }

    int dig(int c, int... v) {
        if (!cell(c) || !grains(v, 9)) return -1;
        dug[c] = v;
        return dugs();
    }

    boolean carry(int c, int from) {
        if (!cell(c)) return false;
        if (from == -1) { carried[c] = -1; return true; }
        if (!cell(from)) return false;
        for (int x = from; x != -1; x = carried[x]) if (x == c) return false;
        carried[c] = from;
        return true;
    }

    boolean bar(int c, boolean is) {
        if (!cell(c)) return false;
        barred[c] = is;
        return true;
    }

    int apart(int c, int d) { return Math.abs(c % a - d % a) + Math.abs(c / a - d / a); }

    List<int[]> nearest(int c) {
        for (int r = 0; r < 20; r++) {
            List<int[]> found = new ArrayList<>();
            for (int d = 0; d < a * b; d++) if (dug[d] != null && apart(c, d) == r) found.add(dug[d]);
            if (!found.isEmpty()) return found;
        }
        return new ArrayList<>();
    }

    /** Null without soil. */
    int[] soilOf(int c) {
        if (dug[c] != null) return dug[c];
        if (carried[c] != -1) return soilOf(carried[c]);
        int[] all = new int[5];
        for (int[] d : nearest(c)) for (int s = 0; s < 5; s++) all[s] += d[s];
        return sum(all) == 0 ? null : all;
    }

    int soil(int c, int sort) {
        if (!cell(c) || !in(sort, -1, 4)) return -1;
        int[] v = soilOf(c);
        if (v == null) return -1;
        return sort == -1 ? sum(v) : v[sort];
    }

    int span(int c, int sort, boolean high) {
        if (!cell(c) || !in(sort, 0, 4) || dugs() == 0) return -1;
        int least = 1000;
        int most = 0;
        for (int[] d : nearest(c)) {
            least = Math.min(least, 1000 * d[sort] / sum(d));
            most = Math.max(most, 1000 * d[sort] / sum(d));
        }
        return high ? most : least;
    }

    int layer(int... v) {
        if (!grains(v, 99) || boot.size() == 8) return -1;
        boot.add(v);
        return boot.size() - 1;
    }

    int clean() { int n = boot.size(); boot.clear(); return n; }

    boolean rules(int bound, int pace, int keep, int missing, int odd) {
        if (!in(bound, 0, 1000) || !in(pace, 0, 99) || !in(keep, 0, 11)) return false;
        if (!in(missing, 0, 1000) || !in(odd, 0, 1000)) return false;
        this.bound = bound;
        this.pace = pace;
        this.keep = keep;
        this.missing = missing;
        this.odd = odd;
        return true;
    }

    static int farOf(long[] l, long[] s) {
        long t = 0;
        long u = 0;
        for (int i = 0; i < 5; i++) { t += l[i]; u += s[i]; }
        long all = 0;
        for (int i = 0; i < 5; i++) all += Math.abs(l[i] * u - s[i] * t);
        return (int) (1000 * all / (2 * t * u));
    }

    static long[] longs(int[] v) {
        long[] w = new long[5];
        for (int i = 0; i < 5; i++) w[i] = v[i];
        return w;
    }

    static int farOf(int[] l, int[] s) { return farOf(longs(l), longs(s)); }
    boolean on(int layer) { return in(layer, 0, boot.size() - 1); }

    int far(int layer, int c) {
        if (!on(layer) || !cell(c) || soilOf(c) == null) return -1;
        return farOf(boot.get(layer), soilOf(c));
    }

    boolean alike(int layer, int c) { int f = far(layer, c); return f >= 0 && f <= bound; }

    List<Integer> whereOf(int layer) {
        List<Integer> w = new ArrayList<>();
        for (int c = 0; c < a * b; c++) if (alike(layer, c)) w.add(c);
        return w;
    }

    int where(int layer, int i) {
        if (!on(layer)) return -1;
        List<Integer> w = whereOf(layer);
        if (i == -1) return w.size();
        return in(i, 0, w.size() - 1) ? w.get(i) : -1;
    }

    int odds(int layer, int c) {
        if (!on(layer) || !cell(c)) return -1;
        if (!alike(layer, c)) return 0;
        int all = 0;
        for (int d : whereOf(layer)) all += bound + 1 - far(layer, d);
        return 1000 * (bound + 1 - far(layer, c)) / all;
    }

    int parted(int layer, int what) {
        if (!on(layer) || !in(what, 0, 3)) return -1;
        int[] best = null;
        int[][] soils = new int[a * b][];
        for (int c = 0; c < a * b; c++) soils[c] = soilOf(c);
        for (int c = 0; c < a * b; c++) for (int d = c + 1; d < a * b; d++) for (int k = 1; k < 10; k++) {
            if (soils[c] == null || soils[d] == null) continue;
            long[] mix = new long[5];
            for (int s = 0; s < 5; s++) {
                mix[s] = (long) k * soils[c][s] * sum(soils[d]) + (10L - k) * soils[d][s] * sum(soils[c]);
            }
            int f = farOf(longs(boot.get(layer)), mix);
            if (best == null || f < best[0]) best = new int[] {f, c, d, k};
        }
        return best == null ? -1 : best[what];
    }

    boolean start(int c) { if (!cell(c)) return false; start = c; return true; }

    int[][] allPaces() {
        int n = a * b;
        int[][] p = new int[n][n];
        for (int c = 0; c < n; c++) for (int d = 0; d < n; d++) {
            boolean open = !barred[c] && !barred[d];
            p[c][d] = !open ? 9999 : c == d ? 0 : apart(c, d) == 1 ? 1 : 9999;
        }
        for (int k = 0; k < n; k++) for (int c = 0; c < n; c++) for (int d = 0; d < n; d++) {
            p[c][d] = Math.min(p[c][d], p[c][k] + p[k][d]);
        }
        return p;
    }

    int paces(int from, int to) {
        if (!cell(from) || !cell(to)) return -1;
        int p = allPaces()[from][to];
        return p >= 9999 ? -1 : p;
    }

    /** Cost, then the cells: the best rows from each cell of the last layers, longer by one layer a round. */
    List<Integer> bestWay() {
        if (boot.isEmpty()) return null;
        int[][] p = allPaces();
        Map<Integer, List<Integer>> rests = new HashMap<>();
        for (int layer = boot.size() - 1; layer >= -1; layer--) {
            Map<Integer, List<Integer>> longer = new HashMap<>();
            List<Integer> cells = layer == -1 ? List.of(start) : whereOf(layer);
            for (int c : cells) {
                List<Integer> best = null;
                if (layer == boot.size() - 1) best = new ArrayList<>(List.of(0));
                for (Map.Entry<Integer, List<Integer>> rest : rests.entrySet()) {
                    if (p[c][rest.getKey()] >= 9999) continue;
                    List<Integer> row = new ArrayList<>(rest.getValue());
                    row.set(0, row.get(0) + pace * p[c][rest.getKey()]);
                    if (best == null || isAhead(row, best)) best = row;
                }
                if (best == null) continue;
                if (layer >= 0) {
                    best.set(0, best.get(0) + far(layer, c));
                    best.add(1, c);
                }
                longer.put(c, best);
            }
            rests = longer;
        }
        return rests.get(start);
    }

    static boolean isAhead(List<Integer> one, List<Integer> other) {
        for (int i = 0; i < one.size(); i++) {
            if (!one.get(i).equals(other.get(i))) return one.get(i) < other.get(i);
        }
        return false;
    }

    int way(int layer) {
        if (layer != -1 && !on(layer)) return -1;
        List<Integer> best = bestWay();
        return best == null ? -1 : best.get(layer + 1);
    }

    int ways() {
        if (boot.isEmpty()) return 0;
        int[][] p = allPaces();
        Map<Integer, Long> rows = new HashMap<>();
        rows.put(start, 1L);
        for (int layer = 0; layer < boot.size(); layer++) {
            Map<Integer, Long> longer = new HashMap<>();
            for (int c : whereOf(layer)) {
                long n = 0;
                for (int d : rows.keySet()) if (p[d][c] < 9999) n += rows.get(d);
                longer.put(c, n);
            }
            rows = longer;
        }
        long all = 0;
        for (long n : rows.values()) all += n;
        return (int) Math.min(1000000, all);
    }

    boolean flowers(int sort, int from, int to) {
        if (!in(sort, 0, 4)) return false;
        if (from == -1) { flowers[sort] = null; return true; }
        if (!in(from, 0, 11) || !in(to, 0, 11)) return false;
        flowers[sort] = new int[] {from, to};
        return true;
    }

    int months(int layer) {
        if (!on(layer)) return -1;
        int bits = 4095;
        for (int s = 0; s < 5; s++) {
            if (boot.get(layer)[s] == 0 || flowers[s] == null) continue;
            int of = 0;
            int long0 = (flowers[s][1] - flowers[s][0] + 12) % 12 + keep;
            for (int n = 0; n <= long0; n++) of |= 1 << (flowers[s][0] + n) % 12;
            bits &= of;
        }
        return bits;
    }

    int when(int layer, boolean late) {
        if (!on(layer)) return -1;
        int[] found = {-1, -1};
        rows(0, 0, layer, -1, found);
        return found[late ? 1 : 0];
    }

    private void rows(int at, int month, int layer, int its, int[] found) {
        if (at == boot.size()) {
            if (found[0] == -1 || its < found[0]) found[0] = its;
            if (its > found[1]) found[1] = its;
            return;
        }
        int bits = months(at);
        for (int m = month; m < 12; m++) {
            if ((bits & 1 << m) != 0) rows(at + 1, m, layer, at == layer ? m : its, found);
        }
    }

    int journey(int i) {
        List<Integer> firsts = new ArrayList<>();
        List<Integer> common = new ArrayList<>();
        for (int layer = 0; layer < boot.size(); layer++) {
            List<Integer> w = whereOf(layer);
            if (w.isEmpty()) return -1;
            common.retainAll(w);
            if (common.isEmpty()) {
                firsts.add(layer);
                common.addAll(w);
            }
        }
        if (i == -1) return firsts.size();
        return in(i, 0, firsts.size() - 1) ? firsts.get(i) : -1;
    }

    int trowel(int what) {
        int best = -1;
        int worth = 0;
        for (int c = 0; c < a * b; c++) {
            if (dug[c] != null || carried[c] != -1 || barred[c] || dugs() == 0) continue;
            int near = 99;
            for (int d = 0; d < a * b; d++) if (dug[d] != null) near = Math.min(near, apart(c, d));
            int n = 0;
            for (int layer = 0; layer < boot.size(); layer++) if (alike(layer, c)) n++;
            if (near * n > worth) { best = c; worth = near * n; }
        }
        if (best == -1) return -1;
        return what == 0 ? best : what == 1 ? worth : -1;
    }

    int feed(int... fives) {
        if (tape.length() > 280) return -1;
        StringBuilder s = new StringBuilder(tape);
        for (int v : fives) for (int i = 3; i >= 0; i--) s.append((char) ((v >>> 8 * i) % 256 & 255));
        tape = s.toString();
        return tape.length();
    }

    int end(int n) {
        if (!in(n, 0, tape.length())) return -1;
        tape = tape.substring(0, n);
        return n;
    }

    int law() {
        if (laws.size() == 4) return -1;
        String text = tape;
        tape = "";
        try {
            laws.add(new Reading(text).law());
            fault = new int[] {0, -1};
            return laws.size() - 1;
        } catch (Fault f) {
            fault = new int[] {f.number, f.place};
            return -1;
        }
    }

    int fault(int what) { return fault == null || !in(what, 0, 1) ? -1 : fault[what]; }

    boolean by(int law) {
        if (!in(law, -1, laws.size() - 1)) return false;
        theLaw = law;
        return true;
    }

    /** Reads by the grammar as it stands, one function for each of its names. */
    static final class Reading {
        static final List<String> WORDS = List.of("wet", "hour", "red", "grey", "chalk", "sand", "wing", "layers",
            "mass", "far", "steps");
        final String text;
        int at = 0;
        String token = null;
        int begin = 0;
        int open = 0;

        Reading(String text) { this.text = text; next(); }

        void next() {
            while (at < text.length() && " \n".indexOf(text.charAt(at)) >= 0) at++;
            begin = at;
            if (at == text.length()) { token = ""; return; }
            String rest = text.substring(at);
            int n = 1;
            if (rest.matches("(?s)[a-zA-Z].*")) n = rest.length() - rest.replaceFirst("^[a-zA-Z]+", "").length();
            else if (rest.matches("(?s)[0-9].*")) n = rest.length() - rest.replaceFirst("^[0-9]+", "").length();
            else if (rest.startsWith("<=") || rest.startsWith(">=")) n = 2;
            token = rest.substring(0, n);
            at += n;
        }

        Fault refuse(int n) { return new Fault(n, begin); }

        boolean eat(String t) {
            if (!token.equals(t)) return false;
            next();
            return true;
        }

        Law law() {
            Law law = new Law();
            for (int n = 0; !token.isEmpty(); n++) {
                String t = token;
                if (!List.of("take", "lose", "new", "falls").contains(t)) throw refuse(1);
                if (t.equals("take") && law.take != null || t.equals("lose") && law.lose != null) throw refuse(4);
                if (n == 10) throw refuse(5);
                next();
                if (t.equals("take")) law.take = sum();
                else if (t.equals("lose")) law.lose = sum();
                else (t.equals("new") ? law.fresh : law.falls).add(either());
                if (!eat(";")) throw refuse(1);
            }
            return law;
        }

        Value either() {
            Value v = both();
            while (eat("or")) { Value l = v; Value r = both(); v = w -> Math.max(l.of(w), r.of(w)); }
            return v;
        }

        Value both() {
            Value v = ask();
            while (eat("and")) { Value l = v; Value r = ask(); v = w -> Math.min(l.of(w), r.of(w)); }
            return v;
        }

        void nest() { if (open == 8) throw refuse(3); open++; next(); }

        Value ask() {
            if (token.equals("not")) {
                nest();
                Value v = ask();
                open--;
                return w -> v.of(w) == 1 ? 0 : 1;
            }
            Value l = sum();
            String t = token;
            if (!List.of("<", "<=", ">", ">=", "=", "#").contains(t)) throw refuse(1);
            next();
            Value r = sum();
            return w -> {
                int c = Integer.compare(l.of(w), r.of(w));
                boolean so = switch (t) {
                    case "<" -> c < 0;
                    case "<=" -> c <= 0;
                    case ">" -> c > 0;
                    case ">=" -> c >= 0;
                    case "=" -> c == 0;
                    default -> c != 0;
                };
                return so ? 1 : 0;
            };
        }

        static int cut(long v) { return (int) (v > 1000000 ? 1000000 : v < -1000000 ? -1000000 : v); }

        Value sum() {
            Value v = product();
            while (token.equals("+") || token.equals("-")) {
                int sign = token.equals("+") ? 1 : -1;
                next();
                Value l = v;
                Value r = product();
                v = w -> cut((long) l.of(w) + sign * (long) r.of(w));
            }
            return v;
        }

        Value product() {
            Value v = one();
            while (token.equals("*") || token.equals("/")) {
                boolean times = token.equals("*");
                next();
                Value l = v;
                Value r = one();
                if (times) v = w -> cut((long) l.of(w) * r.of(w));
                else v = w -> r.of(w) == 0 ? 0 : l.of(w) / r.of(w);
            }
            return v;
        }

        Value one() {
            if (token.matches("[0-9]+")) {
                java.math.BigInteger n = new java.math.BigInteger(token);
                if (n.compareTo(java.math.BigInteger.valueOf(9999)) > 0) throw refuse(2);
                next();
                return w -> n.intValue();
            }
            int word = WORDS.indexOf(token);
            if (word >= 0) { next(); return w -> w[word]; }
            if (token.equals("(")) {
                nest();
                Value v = sum();
                if (!token.equals(")")) throw refuse(1);
                open--;
                next();
                return v;
            }
            if (!token.equals("-")) throw refuse(1);
            nest();
            Value v = one();
            open--;
            return w -> -v.of(w);
        }
    }

    int step(int story, int c, int wet, int hour) {
        if (!in(story, 0, 3) || !cell(c) || !in(wet, 0, 9) || !in(hour, 0, 23)) return -1;
        if (stories.get(story).size() == 20) return -1;
        stories.get(story).add(new int[] {c, wet, hour});
        return stories.get(story).size();
    }

    int forget(int story) {
        if (!in(story, 0, 3)) return -1;
        int n = stories.get(story).size();
        stories.get(story).clear();
        return n;
    }

    int[] words(int[] step, int[] soil, List<int[]> on, int ahead) {
        int[] w = new int[11];
        w[0] = step[1];
        w[1] = step[2];
        for (int s = 0; s < 5; s++) w[2 + s] = 1000 * soil[s] / sum(soil);
        w[7] = on.size();
        w[8] = on.isEmpty() ? 0 : sum(on.get(on.size() - 1));
        w[9] = on.isEmpty() ? 1000 : farOf(on.get(on.size() - 1), soil);
        w[10] = ahead;
        return w;
    }

    List<int[]> walk(int story) {
        Law law = theLaw == -1 ? new Law() : laws.get(theLaw);
        List<int[]> on = new ArrayList<>();
        int ahead = -1;
        for (int[] step : stories.get(story)) {
            ahead++;
            int[] soil = soilOf(step[0]);
            if (soil == null) continue;
            int lose = law.lose == null ? 0 : law.lose.of(words(step, soil, on, ahead));
            lose = Math.min(100, Math.max(0, lose));
            for (int[] l : on) for (int s = 0; s < 5; s++) l[s] -= l[s] * lose / 100;
            on.removeIf(l -> sum(l) == 0);
            boolean falls = false;
            for (Value v : law.falls) falls |= v.of(words(step, soil, on, ahead)) == 1;
            if (falls && !on.isEmpty()) on.remove(on.size() - 1);
            int take = law.take == null ? 10 : law.take.of(words(step, soil, on, ahead));
            take = Math.min(99, Math.max(0, take));
            int[] grains = new int[5];
            for (int s = 0; s < 5; s++) grains[s] = take * soil[s] / sum(soil);
            if (sum(grains) == 0) continue;
            boolean fresh = on.isEmpty();
            for (Value v : law.fresh) fresh |= on.size() < 8 && v.of(words(step, soil, on, ahead)) == 1;
            if (fresh) on.add(new int[5]);
            int[] out = on.get(on.size() - 1);
            for (int s = 0; s < 5; s++) out[s] = Math.min(999, out[s] + grains[s]);
        }
        return on;
    }

    int walked(int story, int layer, int sort) {
        if (!in(story, 0, 3)) return -1;
        List<int[]> on = walk(story);
        if (layer == -1) return on.size();
        return in(layer, 0, on.size() - 1) && in(sort, 0, 4) ? on.get(layer)[sort] : -1;
    }

    int wear(int story) {
        if (!in(story, 0, 3)) return -1;
        boot = walk(story);
        for (int[] l : boot) for (int s = 0; s < 5; s++) l[s] = Math.min(99, l[s]);
        return boot.size();
    }

    /** The least cost, and the choices that come first of like ones: p ahead of w ahead of x. */
    private String[] pairings(List<int[]> on, int i, int j, Map<Integer, String[]> known) {
        if (i == on.size() && j == boot.size()) return new String[] {"0", ""};
        if (known.containsKey(i * 10 + j)) return known.get(i * 10 + j);
        List<String[]> all = new ArrayList<>();
        if (i < on.size() && j < boot.size()) {
            all.add(longer(farOf(on.get(i), boot.get(j)), "p", pairings(on, i + 1, j + 1, known)));
        }
        if (i < on.size()) all.add(longer(missing, "w", pairings(on, i + 1, j, known)));
        if (j < boot.size()) all.add(longer(odd, "x", pairings(on, i, j + 1, known)));
        String[] best = all.get(0);
        for (String[] one : all) {
            int less = Integer.compare(Integer.parseInt(one[0]), Integer.parseInt(best[0]));
            if (less < 0 || less == 0 && one[1].compareTo(best[1]) < 0) best = one;
        }
        known.put(i * 10 + j, best);
        return best;
    }

    private static String[] longer(int cost, String choice, String[] rest) {
        return new String[] {"" + (cost + Integer.parseInt(rest[0])), choice + rest[1]};
    }

    int held(int story, int what) {
        if (!in(story, 0, 3)) return -1;
        String[] best = pairings(walk(story), 0, 0, new HashMap<>());
        if (what == 0) return Integer.parseInt(best[0]);
        if (what == 1) return best[1].replaceAll("[^w]", "").length();
        if (what == 2) return best[1].replaceAll("[^x]", "").length();
        int i = 0;
        int j = 0;
        for (char choice : best[1].toCharArray()) {
            if (choice == 'p' && what == 100 + j) return i;
            if (choice != 'x') i++;
            if (choice != 'w') j++;
        }
        return -1;
    }

    int believed(int set) {
        if (!in(set, 1, 15)) return -1;
        int best = -1;
        for (int s = 3; s >= 0; s--) {
            if ((set & 1 << s) != 0 && (best == -1 || held(s, 0) <= held(best, 0))) best = s;
        }
        return best;
    }

    int verdict(int looker, int layer, int c, boolean yes, boolean knew) {
        if (!in(looker, 0, 3) || !in(layer, 0, 7) || !cell(c) || verdicts.size() == 60) return -1;
        verdicts.add(new int[] {looker, layer, c, yes ? 1 : 0, knew ? 1 : 0});
        return verdicts.size();
    }

    int lean(int looker) {
        int[] n = new int[2];
        int[] yes = new int[2];
        for (int[] v : verdicts) if (v[0] == looker) { n[v[4]]++; yes[v[4]] += v[3]; }
        return n[0] == 0 || n[1] == 0 ? -2000 : 1000 * yes[1] / n[1] - 1000 * yes[0] / n[0];
    }

    int agree(int one, int other) {
        if (!in(one, 0, 3) || !in(other, 0, 3) || one == other) return -1;
        int n = 0;
        int same = 0;
        for (int[] v : verdicts) for (int[] w : verdicts) {
            if (v[0] != one || w[0] != other || v[1] != w[1] || v[2] != w[2]) continue;
            n++;
            if (v[3] == w[3]) same++;
        }
        return n == 0 ? -1 : 1000 * same / n;
    }

    int image() { image = copy(); return dugs(); }

    int back() {
        PlainMud was = image.copy();
        dug = was.dug;
        carried = was.carried;
        barred = was.barred;
        boot = was.boot;
        bound = was.bound;
        pace = was.pace;
        keep = was.keep;
        missing = was.missing;
        odd = was.odd;
        start = was.start;
        flowers = was.flowers;
        laws = was.laws;
        theLaw = was.theLaw;
        stories = was.stories;
        verdicts = was.verdicts;
        return dugs();
    }

    int about(int what) {
        int[] all = {a, b, dugs(), boot.size(), laws.size(), theLaw, verdicts.size(), start, tape.length()};
        if (in(what, 0, 8)) return all[what];
        return in(what, 10, 13) ? stories.get(what - 10).size() : -1;
    }
}
