import java.util.ArrayList;
import java.util.List;
import java.util.Random;

/**
 * Runs of calls drawn from fixed seeds, each answered by OneCall and by a model that follows the
 * document's definitions word by word, by trying everything. They must answer alike.
 */
public final class ModelTest {
    static final int NONE = -1, BAD = -2, KIND = -3, FULL = -4, STATE = -5;

    /** The plainest OneCall: it keeps what was told and works everything out anew at each call. */
    static final class Model {
        static final class Person {
            int kind;
            boolean off;
            final List<Integer> sums = new ArrayList<>();
            final List<Integer> calls = new ArrayList<>();
            final List<Integer> wanted = new ArrayList<>();
        }

        final List<Long> pieces = new ArrayList<>();
        final List<Person> people = new ArrayList<>();
        final List<Integer> said = new ArrayList<>();

        int n() { return pieces.size(); }
        boolean noPiece(int p) { return p < 0 || p >= n(); }
        boolean noPerson(int l) { return l < 0 || l >= people.size(); }
        boolean noCall(int c) { return c < 0 || c >= said.size(); }
        boolean badMask(int m) { return m <= 0 || m >= (1 << n()); }
        long bytesOf(int mask) {
            long x = 0;
            for (int p = 0; p < n(); p++) if ((mask & (1 << p)) != 0) x ^= pieces.get(p);
            return x;
        }

        List<Integer> rows(Person a) {
            List<Integer> r = new ArrayList<>(a.sums);
            for (int c : a.calls) r.add(said.get(c));
            return r;
        }

        /** All exclusive ors of the first 'many' rows, the empty one too. */
        boolean[] span(List<Integer> rows, int many) {
            boolean[] in = new boolean[1 << n()];
            in[0] = true;
            for (int k = 0; k < many; k++) in = wider(in, rows.get(k));
            return in;
        }

        boolean[] wider(boolean[] in, int mask) {
            if (in[mask]) return in;
            boolean[] out = in.clone();
            for (int m = 0; m < in.length; m++) if (in[m]) out[m ^ mask] = true;
            return out;
        }

        boolean[] span(Person a) { List<Integer> r = rows(a); return span(r, r.size()); }
        boolean isNew(Person a, int k) { List<Integer> r = rows(a); return !span(r, k)[r.get(k)]; }
        int rank(Person a) {
            int rank = 0;
            for (int k = 0; k < rows(a).size(); k++) if (isNew(a, k)) rank++;
            return rank;
        }

        boolean served(Person a, boolean[] in) {
            if (a.kind == 2) {
                boolean all = true;
                for (int p = 0; p < n(); p++) if (!a.sums.contains(1 << p)) all = false;
                if (all) return true;
                for (int p = 0; p < n(); p++) if (in[1 << p] && !a.sums.contains(1 << p)) return true;
                return false;
            }
            for (int p : a.wanted) if (!in[1 << p]) return false;
            return true;
        }

        int piece(long v) {
            if (!said.isEmpty()) return STATE;
            if (n() == 10) return FULL;
            pieces.add(v);
            return n() - 1;
        }
        long bytes(int p) { return noPiece(p) ? 0 : pieces.get(p); }
        int listener(int kind) {
            if (kind < 0 || kind > 4) return BAD;
            if (people.size() == 10) return FULL;
            Person a = new Person();
            a.kind = kind;
            people.add(a);
            return people.size() - 1;
        }
        int wants(int l, int p) {
            if (noPerson(l) || noPiece(p)) return NONE;
            Person a = people.get(l);
            if (a.kind == 2) return KIND;
            if (a.wanted.contains(p)) return 0;
            if (a.kind == 0 && !a.wanted.isEmpty()) return FULL;
            a.wanted.add(p);
            return 1;
        }
        int has(int l, int mask) {
            if (noPerson(l)) return NONE;
            Person a = people.get(l);
            if (badMask(mask)) return BAD;
            if (a.kind != 3 && (mask & (mask - 1)) != 0) return BAD;
            if (a.sums.contains(mask)) return BAD;
            if (!said.isEmpty()) return STATE;
            if (a.sums.size() == 12) return FULL;
            a.sums.add(mask);
            return a.sums.size();
        }
        int off(int l, int off) {
            if (noPerson(l)) return NONE;
            Person a = people.get(l);
            if (a.kind != 4) return KIND;
            if (off != 0 && off != 1) return BAD;
            int was = a.off ? 1 : 0;
            a.off = off == 1;
            return was;
        }
        int say(int mask) {
            if (badMask(mask)) return BAD;
            if (said.size() == 40) return FULL;
            said.add(mask);
            for (Person a : people) if (!a.off) a.calls.add(said.size() - 1);
            return said.size() - 1;
        }
        int again(int c) { return noCall(c) ? NONE : say(said.get(c)); }
        int call(int c, int what) {
            if (noCall(c) || what < 0 || what > 2) return NONE;
            if (what == 0) return said.get(c);
            int heard = 0;
            int news = 0;
            for (Person a : people) {
                int at = a.calls.indexOf(c);
                if (at < 0) continue;
                heard++;
                if (isNew(a, a.sums.size() + at)) news++;
            }
            return what == 1 ? heard : news;
        }
        long sum(int c) { return noCall(c) ? 0 : bytesOf(said.get(c)); }
        int heard(int l, int c) {
            if (noPerson(l) || noCall(c)) return NONE;
            return people.get(l).calls.contains(c) ? 1 : 0;
        }
        int about(int l, int what) {
            if (noPerson(l)) return NONE;
            Person a = people.get(l);
            if (what == 0) return a.kind;
            if (what == 1) return a.sums.size();
            if (what == 2) return rows(a).size();
            if (what == 3) return rank(a);
            if (what == 4) return n() - rank(a);
            if (what == 5) { int m = 0; for (int p : a.wanted) m |= 1 << p; return m; }
            if (what == 6) return served(a, span(a)) ? 1 : 0;
            if (what == 7) return a.off ? 1 : 0;
            return NONE;
        }
        int rowOf(int l, int k) {
            if (noPerson(l)) return NONE;
            List<Integer> r = rows(people.get(l));
            return k < 0 || k >= r.size() ? NONE : r.get(k);
        }
        int solve(int l, int p) {
            if (noPerson(l) || noPiece(p)) return NONE;
            return span(people.get(l))[1 << p] ? 1 : 0;
        }
        long why(int l, int p) {
            if (solve(l, p) != 1) return -1;
            Person a = people.get(l);
            List<Integer> r = rows(a);
            List<Integer> news = new ArrayList<>();
            for (int k = 0; k < r.size(); k++) if (isNew(a, k)) news.add(k);
            for (int set = 0; set < 1 << news.size(); set++) {
                int mask = 0;
                long which = 0;
                for (int i = 0; i < news.size(); i++) {
                    if ((set & (1 << i)) == 0) continue;
                    mask ^= r.get(news.get(i));
                    which |= 1L << news.get(i);
                }
                if (mask == 1 << p) return which;
            }
            throw new IllegalStateException("worked out by nothing");
        }
        long gets(int l, int p) {
            if (solve(l, p) != 1) return 0;
            long which = why(l, p);
            long x = 0;
            List<Integer> r = rows(people.get(l));
            for (int k = 0; k < r.size(); k++) if ((which & (1L << k)) != 0) x ^= bytesOf(r.get(k));
            return x;
        }
        int lack(int l, int p) {
            if (solve(l, p) != 0) return NONE;
            List<Integer> r = rows(people.get(l));
            for (int mask = 1; mask < 1 << n(); mask++) {
                boolean fits = (mask & (1 << p)) != 0;
                for (int row : r) if (Integer.bitCount(row & mask) % 2 != 0) fits = false;
                if (fits) return mask;
            }
            throw new IllegalStateException("no lack");
        }
        int left() { return people.size() - count(3); }

        List<int[]> needList() {
            List<int[]> list = new ArrayList<>();
            for (int l = 0; l < people.size(); l++) {
                if (people.get(l).kind == 2) continue;
                boolean[] in = span(people.get(l));
                for (int p = 0; p < n(); p++)
                    if (people.get(l).wanted.contains(p) && !in[1 << p]) list.add(new int[] {l, p});
            }
            return list;
        }
        int needs() { return needList().size(); }
        int need(int i, int what) {
            List<int[]> list = needList();
            if (i < 0 || i >= list.size() || what < 0 || what > 1) return NONE;
            return list.get(i)[what];
        }

        boolean[][] lackTable(List<int[]> list) {
            boolean[][] lacks = new boolean[list.size()][list.size()];
            for (int i = 0; i < list.size(); i++)
                for (int j = 0; j < list.size(); j++) lacks[i][j] = solve(list.get(i)[0], list.get(j)[1]) == 0;
            return lacks;
        }

        List<Integer> bestOrder;
        List<Integer> theOrder() {
            List<int[]> list = needList();
            bestOrder = new ArrayList<>();
            growOrder(list, lackTable(list), new ArrayList<>());
            return bestOrder;
        }
        void growOrder(List<int[]> list, boolean[][] lacks, List<Integer> row) {
            if (row.size() > bestOrder.size()) bestOrder = new ArrayList<>(row);
            for (int j = 0; j < list.size(); j++) {
                if (bestOrder.size() == n()) return;
                boolean fits = !row.contains(j);
                for (int i : row) if (!lacks[i][j] || list.get(i)[1] == list.get(j)[1]) fits = false;
                if (!fits) continue;
                row.add(j);
                growOrder(list, lacks, row);
                row.remove(row.size() - 1);
            }
        }
        int below() { return needs() > 10 ? STATE : theOrder().size(); }
        int order(int i) {
            if (needs() > 10) return NONE;
            List<Integer> row = theOrder();
            return i < 0 || i >= row.size() ? NONE : row.get(i);
        }

        List<Integer> bestGroups;
        List<Integer> theGroups() {
            List<int[]> list = needList();
            bestGroups = null;
            growGroups(list, lackTable(list), 0, new ArrayList<>());
            return bestGroups;
        }
        /** All ways to part the needs into groups; the groups stand in the order of their least needs. */
        void growGroups(List<int[]> list, boolean[][] lacks, int i, List<Integer> groups) {
            if (i == list.size()) {
                if (bestGroups == null || before(groups, bestGroups)) bestGroups = new ArrayList<>(groups);
                return;
            }
            for (int g = 0; g < groups.size(); g++) {
                int old = groups.get(g);
                boolean fits = true;
                for (int j = 0; j < i; j++) {
                    if ((old & (1 << j)) == 0) continue;
                    boolean samePiece = list.get(i)[1] == list.get(j)[1];
                    boolean twoHelp = list.get(i)[0] != list.get(j)[0] && !lacks[i][j] && !lacks[j][i];
                    if (!samePiece && !twoHelp) fits = false;
                }
                if (!fits) continue;
                groups.set(g, old | 1 << i);
                growGroups(list, lacks, i + 1, groups);
                groups.set(g, old);
            }
            groups.add(1 << i);
            growGroups(list, lacks, i + 1, groups);
            groups.remove(groups.size() - 1);
        }
        boolean before(List<Integer> a, List<Integer> b) {
            if (a.size() != b.size()) return a.size() < b.size();
            for (int i = 0; i < a.size(); i++) if (!a.get(i).equals(b.get(i))) return a.get(i) < b.get(i);
            return false;
        }
        int above() { return needs() > 10 ? STATE : theGroups().size(); }
        int group(int k) {
            if (needs() > 10) return NONE;
            List<Integer> groups = theGroups();
            return k < 0 || k >= groups.size() ? NONE : groups.get(k);
        }

        List<boolean[]> spans() {
            List<boolean[]> all = new ArrayList<>();
            for (Person a : people) all.add(span(a));
            return all;
        }
        boolean isPlan(List<boolean[]> spans, List<Integer> masks) {
            for (int l = 0; l < people.size(); l++) {
                boolean[] in = spans.get(l);
                for (int m : masks) in = wider(in, m);
                if (!served(people.get(l), in)) return false;
            }
            return true;
        }
        List<Integer> theLeast() {
            List<boolean[]> spans = spans();
            for (int size = 0; ; size++) {
                List<Integer> row = new ArrayList<>();
                if (growPlan(spans, row, size)) return row;
            }
        }
        boolean growPlan(List<boolean[]> spans, List<Integer> row, int size) {
            if (row.size() == size) return isPlan(spans, row);
            int last = row.isEmpty() ? 0 : row.get(row.size() - 1);
            for (int m = last + 1; m < 1 << n(); m++) {
                row.add(m);
                if (growPlan(spans, row, size)) return true;
                row.remove(row.size() - 1);
            }
            return false;
        }
        int least() { return n() > 5 ? STATE : theLeast().size(); }
        int planned(int i) {
            if (n() > 5) return NONE;
            List<Integer> row = theLeast();
            return i < 0 || i >= row.size() ? NONE : row.get(i);
        }
        int plan(int a, int b, int c, int d) {
            List<Integer> row = new ArrayList<>();
            boolean ended = false;
            for (int m : new int[] {a, b, c, d}) {
                if (m == 0) { ended = true; continue; }
                if (ended || badMask(m)) return BAD;
                row.add(m);
            }
            return isPlan(spans(), row) ? 1 : 0;
        }
        int goOn() {
            if (said.size() == 40) return FULL;
            List<boolean[]> spans = spans();
            int best = 0;
            int bestServed = -1;
            int bestNearer = -1;
            boolean any = false;
            for (int m = 1; m < 1 << n(); m++) {
                int becameServed = 0;
                int nearer = 0;
                for (int l = 0; l < people.size(); l++) {
                    Person a = people.get(l);
                    boolean[] in = spans.get(l);
                    if (a.off || served(a, in)) continue;
                    if (!in[m]) nearer++;
                    if (served(a, wider(in, m))) becameServed++;
                }
                if (nearer > 0) any = true;
                if (becameServed > bestServed || becameServed == bestServed && nearer > bestNearer) {
                    best = m;
                    bestServed = becameServed;
                    bestNearer = nearer;
                }
            }
            if (!any) return 0;
            say(best);
            return best;
        }
        int finish() {
            int many = 0;
            while (goOn() > 0) many++;
            return many;
        }
        int count(int what) {
            if (what == 0) return n();
            if (what == 1) return people.size();
            if (what == 2) return said.size();
            int served = 0;
            int ranks = 0;
            for (Person a : people) { if (served(a, span(a))) served++; ranks += rank(a); }
            return what == 3 ? served : what == 4 ? ranks : NONE;
        }
    }

    static int wrong = 0;
    static long compared = 0;

    final Random random;
    final int mostPieces;
    final OneCall real = new OneCall();
    final Model model = new Model();
    final StringBuilder story = new StringBuilder();
    final String run;

    ModelTest(long seed, int mostPieces) {
        random = new Random(seed);
        this.mostPieces = mostPieces;
        run = "seed " + seed + ", pieces up to " + mostPieces;
    }

    void same(String call, long got, long want) {
        compared++;
        if (got == want) return;
        wrong++;
        if (wrong <= 20) System.out.println(run + ":" + story + "\n  " + call + " answered " + got + ", due is " + want);
    }
    void act(String call, long got, long want) {
        story.append(' ').append(call).append('=').append(want);
        same(call, got, want);
    }

    /** Mostly a number below the bound, sometimes one just or far outside. */
    int near(int bound) {
        int r = random.nextInt(30);
        if (r == 0) return -1;
        if (r == 1) return bound;
        if (r == 2) return random.nextInt();
        return bound == 0 ? 0 : random.nextInt(bound);
    }
    int mask() {
        int r = random.nextInt(30);
        int n = model.n();
        if (r == 0) return 0;
        if (r == 1) return 1 << n;
        if (r == 2) return random.nextInt();
        if (r == 3) return -random.nextInt(1 << n) - 1;
        return random.nextInt(1 << n);
    }
    int hadMask() {
        return model.n() > 0 && random.nextInt(3) > 0 ? 1 << random.nextInt(model.n()) : mask();
    }

    void change() {
        int l = near(model.people.size());
        int p = near(model.n());
        int r = random.nextInt(100);
        if (r < 8) {
            if (model.n() < mostPieces) {
                long v = random.nextLong();
                act("piece(" + v + ")", real.piece(v), model.piece(v));
            }
        } else if (r < 18) {
            int kind = near(5);
            act("listener(" + kind + ")", real.listener(kind), model.listener(kind));
        } else if (r < 48) {
            act("wants(" + l + "," + p + ")", real.wants(l, p), model.wants(l, p));
        } else if (r < 78) {
            int m = hadMask();
            act("has(" + l + "," + m + ")", real.has(l, m), model.has(l, m));
        } else if (r < 86) {
            int off = near(2);
            act("off(" + l + "," + off + ")", real.off(l, off), model.off(l, off));
        } else {
            speak();
        }
    }

    void speak() {
        // Calls close the telling of pieces and sums, so most runs put them off for a while.
        if (model.said.isEmpty() && random.nextInt(5) > 0) return;
        int r = random.nextInt(8);
        if (r < 4) { int m = mask(); act("say(" + m + ")", real.say(m), model.say(m)); }
        else if (r < 6) { int c = near(model.said.size()); act("again(" + c + ")", real.again(c), model.again(c)); }
        else if (r < 7) act("goOn()", real.goOn(), model.goOn());
        else if (random.nextInt(6) == 0) act("finish()", real.finish(), model.finish());
    }

    void ask() {
        int l = near(model.people.size());
        int p = near(model.n());
        int c = near(model.said.size());
        int w = near(9);
        same("bytes(" + p + ")", real.bytes(p), model.bytes(p));
        same("call(" + c + "," + w % 4 + ")", real.call(c, w % 4), model.call(c, w % 4));
        same("sum(" + c + ")", real.sum(c), model.sum(c));
        same("heard(" + l + "," + c + ")", real.heard(l, c), model.heard(l, c));
        same("about(" + l + "," + w + ")", real.about(l, w), model.about(l, w));
        int k = near(l >= 0 && l < model.people.size() ? model.about(l, 2) + 1 : 1);
        same("rowOf(" + l + "," + k + ")", real.rowOf(l, k), model.rowOf(l, k));
        same("solve(" + l + "," + p + ")", real.solve(l, p), model.solve(l, p));
        same("why(" + l + "," + p + ")", real.why(l, p), model.why(l, p));
        same("gets(" + l + "," + p + ")", real.gets(l, p), model.gets(l, p));
        same("lack(" + l + "," + p + ")", real.lack(l, p), model.lack(l, p));
        same("left()", real.left(), model.left());
        same("count(" + w + ")", real.count(w), model.count(w));
        int a = mask(), b = mask(), d = random.nextInt(3) == 0 ? 0 : mask(), e = d == 0 ? 0 : mask();
        same("plan(" + a + "," + b + "," + d + "," + e + ")", real.plan(a, b, d, e), model.plan(a, b, d, e));
    }

    void askDear() {
        int size = model.needs();
        same("needs()", real.needs(), size);
        for (int i = -1; i <= size; i++)
            for (int w = -1; w <= 2; w++) same("need(" + i + "," + w + ")", real.need(i, w), model.need(i, w));
        // The answers row by row are taken from the model's whole row, which is dear to make.
        List<Integer> order = size > 10 ? new ArrayList<>() : model.theOrder();
        List<Integer> groups = size > 10 ? new ArrayList<>() : model.theGroups();
        List<Integer> least = model.n() > 5 ? new ArrayList<>() : model.theLeast();
        same("below()", real.below(), size > 10 ? STATE : order.size());
        same("above()", real.above(), size > 10 ? STATE : groups.size());
        same("least()", real.least(), model.n() > 5 ? STATE : least.size());
        for (int i = -1; i <= 11; i++) {
            same("order(" + i + ")", real.order(i), i < 0 || i >= order.size() ? NONE : order.get(i));
            same("group(" + i + ")", real.group(i), i < 0 || i >= groups.size() ? NONE : groups.get(i));
            same("planned(" + i + ")", real.planned(i), i < 0 || i >= least.size() ? NONE : least.get(i));
        }
    }

    /** A full house to begin with, since chance alone seldom makes one. */
    void setScene() {
        for (int i = 0; i < mostPieces; i++) {
            long v = random.nextLong();
            act("piece(" + v + ")", real.piece(v), model.piece(v));
        }
        if (random.nextInt(3) == 0) {
            setExchange();
            return;
        }
        int people = 1 + random.nextInt(10);
        int wishes = random.nextInt(4);
        int had = random.nextInt(6);
        for (int l = 0; l < people; l++) {
            int kind = random.nextInt(5);
            act("listener(" + kind + ")", real.listener(kind), model.listener(kind));
            for (int i = random.nextInt(wishes + 1); i >= 0; i--) {
                int p = random.nextInt(mostPieces);
                act("wants(" + l + "," + p + ")", real.wants(l, p), model.wants(l, p));
            }
            for (int i = random.nextInt(had * (kind == 3 ? 3 : 1) + 1); i > 0; i--) {
                int m = kind == 3 ? mask() : 1 << random.nextInt(mostPieces);
                act("has(" + l + "," + m + ")", real.has(l, m), model.has(l, m));
            }
        }
    }

    /** Ten that want each a piece and have many others: orders and groups of many shapes. */
    void setExchange() {
        int share = 20 + random.nextInt(70);
        for (int l = 0; l < 10; l++) {
            int kind = random.nextInt(3) == 0 ? random.nextInt(5) : 1;
            int wish = l % mostPieces;
            act("listener(" + kind + ")", real.listener(kind), model.listener(kind));
            act("wants(" + l + "," + wish + ")", real.wants(l, wish), model.wants(l, wish));
            for (int p = 0; p < mostPieces; p++) {
                if (p == wish || random.nextInt(100) >= share) continue;
                int m = 1 << p;
                act("has(" + l + "," + m + ")", real.has(l, m), model.has(l, m));
            }
        }
    }

    void play(int steps, int dearEvery) {
        if (random.nextInt(8) > 0) {
            setScene();
            askDear();
        }
        boolean talks = random.nextBoolean();
        for (int step = 0; step < steps; step++) {
            if (talks && random.nextBoolean()) speak(); else change();
            ask();
            if (step % dearEvery == dearEvery - 1) askDear();
        }
        act("finish()", real.finish(), model.finish());
        ask();
        askDear();
    }

    public static void main(String[] args) {
        int scale = args.length > 1 ? Integer.parseInt(args[1]) : 1;
        for (int seed = 0; seed < 600 * scale; seed++) new ModelTest(seed, 1 + seed % 5).play(10 + seed % 90, 12);
        for (int seed = 0; seed < 60 * scale; seed++) new ModelTest(1000000 + seed, 6 + seed % 5).play(10 + seed % 90, 20);
        System.out.println(compared + " answers compared, " + wrong + " not as due");
        if (wrong != 0) System.exit(1);
    }
}
