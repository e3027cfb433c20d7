/** For each promise of the document, by its number: ordinary inputs, edges and refusals, worked out by hand. */
public final class PromiseTest {
    static final int NONE = -1, BAD = -2, KIND = -3, FULL = -4, STATE = -5;
    static final int ONE = 0, SEVERAL = 1, ANY = 2, HOLDING = 3, DEAF = 4;
    static final int[] FAR = {Integer.MIN_VALUE, -1, 100, Integer.MAX_VALUE};

    static int promise = 0;
    static int wrong = 0;
    static int asked = 0;

    static void due(String call, long got, long want) {
        asked++;
        if (got == want) return;
        wrong++;
        System.out.println("promise " + promise + ": " + call + " answered " + got + ", due is " + want);
    }

    /** An object with so many pieces, of the bytes 1, 2, 4 and so on, and one listener of each kind given. */
    static OneCall made(int pieces, int... kinds) {
        OneCall x = new OneCall();
        for (int p = 0; p < pieces; p++) due("piece", x.piece(1L << p), p);
        for (int l = 0; l < kinds.length; l++) due("listener", x.listener(kinds[l]), l);
        return x;
    }
    static void wish(OneCall x, int l, int... pieces) {
        for (int p : pieces) due("wants(" + l + ", " + p + ")", x.wants(l, p), 1);
    }
    static void give(OneCall x, int l, int... masks) {
        for (int i = 0; i < masks.length; i++) due("has(" + l + ", " + masks[i] + ")", x.has(l, masks[i]), i + 1);
    }
    static void sayAll(OneCall x, int... masks) {
        for (int m : masks) { int n = x.count(2); due("say(" + m + ")", x.say(m), n); }
    }
    static void sayUpTo(OneCall x, int many, int mask) {
        for (int c = x.count(2); c < many; c++) due("say(" + mask + ")", x.say(mask), c);
    }
    static void fill(OneCall x) {
        sayUpTo(x, 40, 1);
    }
    static void order(OneCall x, int... needs) {
        due("below()", x.below(), needs.length);
        for (int i = 0; i < needs.length; i++) due("order(" + i + ")", x.order(i), needs[i]);
        due("order at the end", x.order(needs.length), NONE);
        due("order(-1)", x.order(-1), NONE);
        for (int i : FAR) due("order(" + i + ")", x.order(i), NONE);
    }
    static void groups(OneCall x, int... masks) {
        due("above()", x.above(), masks.length);
        for (int i = 0; i < masks.length; i++) due("group(" + i + ")", x.group(i), masks[i]);
        due("group at the end", x.group(masks.length), NONE);
        for (int i : FAR) due("group(" + i + ")", x.group(i), NONE);
    }
    static void least(OneCall x, int... masks) {
        due("least()", x.least(), masks.length);
        for (int i = 0; i < masks.length; i++) due("planned(" + i + ")", x.planned(i), masks[i]);
        due("planned at the end", x.planned(masks.length), NONE);
        for (int i : FAR) due("planned(" + i + ")", x.planned(i), NONE);
    }

    static void newObject() {
        OneCall other = made(3, ONE, ANY);
        other.say(5);
        OneCall x = new OneCall();
        for (int w = 0; w <= 4; w++) due("count(" + w + ")", x.count(w), 0);
        due("left()", x.left(), 0);
        due("needs()", x.needs(), 0);
        order(x);
        groups(x);
        least(x);
        due("plan(0,0,0,0)", x.plan(0, 0, 0, 0), 1);
        due("goOn()", x.goOn(), 0);
        due("finish()", x.finish(), 0);
        due("say(1)", x.say(1), BAD);
        due("again(0)", x.again(0), NONE);
        due("about(0, 0)", x.about(0, 0), NONE);
    }

    static void piece() {
        OneCall x = new OneCall();
        long[] values = {0L, -1L, Long.MIN_VALUE, Long.MAX_VALUE, 7L, 7L, 0L, 1L, 2L, 3L};
        for (int p = 0; p < 10; p++) due("piece(" + values[p] + ")", x.piece(values[p]), p);
        due("an 11th", x.piece(5), FULL);
        due("count(0)", x.count(0), 10);
        for (int p = 0; p < 10; p++) due("bytes(" + p + ")", x.bytes(p), values[p]);
        due("say(1)", x.say(1), 0);
        due("an 11th after a call: STATE is told first", x.piece(5), STATE);
        OneCall y = made(1);
        due("say(1)", y.say(1), 0);
        due("piece(9)", y.piece(9), STATE);
        due("count(0)", y.count(0), 1);
        due("bytes(1)", y.bytes(1), 0);
        OneCall z = made(1);
        due("a refused call", z.say(2), BAD);
        due("piece is still taken", z.piece(9), 1);
        due("say(2)", z.say(2), 0);
    }

    static void bytes() {
        OneCall x = new OneCall();
        due("bytes(0)", x.bytes(0), 0);
        x.piece(-77L);
        due("bytes(0)", x.bytes(0), -77L);
        due("bytes(1)", x.bytes(1), 0);
        for (int p : FAR) due("bytes(" + p + ")", x.bytes(p), 0);
    }

    static void listener() {
        OneCall x = made(2);
        for (int kind : new int[] {-1, 5, Integer.MIN_VALUE, Integer.MAX_VALUE}) due("kind", x.listener(kind), BAD);
        for (int l = 0; l < 10; l++) due("listener", x.listener(l % 5), l);
        due("count(1)", x.count(1), 10);
        due("an 11th", x.listener(0), FULL);
        due("an 11th of no kind: BAD is told first", x.listener(5), BAD);
        for (int l = 0; l < 10; l++) {
            due("kind", x.about(l, 0), l % 5);
            for (int w : new int[] {1, 2, 3, 5, 7}) due("about", x.about(l, w), 0);
            due("free", x.about(l, 4), 2);
        }
        OneCall y = made(2, SEVERAL);
        sayAll(y, 1);
        due("a late one", y.listener(SEVERAL), 1);
        sayAll(y, 2);
        due("heard(1, 0)", y.heard(1, 0), 0);
        due("heard(1, 1)", y.heard(1, 1), 1);
        due("rowOf(1, 0)", y.rowOf(1, 0), 2);
        due("call(0, 1)", y.call(0, 1), 1);
        due("call(1, 1)", y.call(1, 1), 2);
    }

    static void wants() {
        OneCall x = made(3, ONE, SEVERAL, ANY, HOLDING, DEAF);
        for (int l : FAR) due("wants(" + l + ", 0)", x.wants(l, 0), NONE);
        for (int p : FAR) due("wants(1, " + p + ")", x.wants(1, p), NONE);
        due("wants(5, 0)", x.wants(5, 0), NONE);
        due("wants(1, 3)", x.wants(1, 3), NONE);
        due("ANY, no such piece: NONE is told first", x.wants(2, 3), NONE);
        due("ANY", x.wants(2, 0), KIND);
        due("ANY", x.about(2, 5), 0);
        due("ONE", x.wants(0, 2), 1);
        due("ONE, the same", x.wants(0, 2), 0);
        due("ONE, another", x.wants(0, 0), FULL);
        due("ONE, no such piece: NONE is told first", x.wants(0, 3), NONE);
        due("ONE", x.about(0, 5), 4);
        for (int l : new int[] {1, 3, 4}) {
            wish(x, l, 2, 0);
            due("the same", x.wants(l, 0), 0);
            due("about(l, 5)", x.about(l, 5), 5);
        }
        sayAll(x, 1);
        due("after a call", x.wants(1, 1), 1);
        due("about(1, 5)", x.about(1, 5), 7);
    }

    static void has() {
        OneCall x = made(4, ONE, SEVERAL, ANY, HOLDING, DEAF);
        for (int l : FAR) due("has(" + l + ", 0): NONE is told first", x.has(l, 0), NONE);
        for (int l = 0; l < 5; l++) {
            for (int m : new int[] {0, -1, 16, 17, 1 << 10, Integer.MIN_VALUE}) due("has(" + l + ", " + m + ")", x.has(l, m), BAD);
            due("two pieces", x.has(l, 3), l == HOLDING ? 1 : BAD);
            int more = l == HOLDING ? 1 : 0;
            due("one piece", x.has(l, 8), 1 + more);
            due("one piece more", x.has(l, 1), 2 + more);
            due("the same", x.has(l, 8), BAD);
            due("about(l, 1)", x.about(l, 1), 2 + more);
        }
        due("in the order told", x.rowOf(1, 0), 8);
        due("in the order told", x.rowOf(1, 1), 1);
        due("a sum of what it has may be told", x.has(3, 2), 4);
        sayAll(x, 4);
        due("after a call", x.has(1, 4), STATE);
        due("after a call, the same: BAD is told first", x.has(1, 8), BAD);
        due("after a call, a bad mask", x.has(1, 0), BAD);
        due("after a call, two pieces", x.has(1, 6), BAD);
        due("after a call", x.has(3, 7), STATE);
        due("nothing has changed", x.about(1, 1), 2);

        OneCall y = made(4, HOLDING);
        give(y, 0, 1, 2, 3, 4, 5, 6, 7, 8, 9, 10, 11, 12);
        due("a 13th", y.has(0, 13), FULL);
        due("the same: BAD is told first", y.has(0, 12), BAD);
        due("a bad mask", y.has(0, 16), BAD);
        due("about(0, 1)", y.about(0, 1), 12);
        sayAll(y, 13);
        due("a 13th after a call: STATE is told first", y.has(0, 13), STATE);

        OneCall z = made(10, SEVERAL);
        for (int p = 0; p < 10; p++) due("has", z.has(0, 1 << p), p + 1);
        due("FREE", z.about(0, 4), 0);
    }

    static void off() {
        OneCall x = made(1, ONE, SEVERAL, ANY, HOLDING, DEAF);
        for (int l : FAR) due("off(" + l + ", 7)", x.off(l, 7), NONE);
        due("off(5, 1)", x.off(5, 1), NONE);
        for (int l = 0; l < 4; l++) {
            due("off(" + l + ", 1)", x.off(l, 1), KIND);
            due("off(" + l + ", 2): KIND is told first", x.off(l, 2), KIND);
            due("about(l, 7)", x.about(l, 7), 0);
        }
        for (int off : new int[] {-1, 2, Integer.MIN_VALUE, Integer.MAX_VALUE}) due("off(4, ..)", x.off(4, off), BAD);
        due("off(4, 0)", x.off(4, 0), 0);
        due("off(4, 1)", x.off(4, 1), 0);
        due("off(4, 1)", x.off(4, 1), 1);
        due("a bad one changes nothing", x.off(4, 2), BAD);
        due("about(4, 7)", x.about(4, 7), 1);
        sayAll(x, 1);
        due("off(4, 0)", x.off(4, 0), 1);
        due("about(4, 7)", x.about(4, 7), 0);
        sayAll(x, 1);
        due("heard(4, 0)", x.heard(4, 0), 0);
        due("heard(4, 1)", x.heard(4, 1), 1);
    }

    static void say() {
        OneCall x = made(3, SEVERAL);
        for (int m : new int[] {0, -1, 8, 9, 1 << 10, Integer.MIN_VALUE, Integer.MAX_VALUE}) due("say(" + m + ")", x.say(m), BAD);
        due("count(2)", x.count(2), 0);
        for (int c = 0; c < 40; c++) due("say", x.say(1 + c % 7), c);
        due("a 41st", x.say(1), FULL);
        due("a bad 41st: BAD is told first", x.say(8), BAD);
        due("count(2)", x.count(2), 40);
        due("call(39, 0)", x.call(39, 0), 1 + 39 % 7);
        due("about(0, 2)", x.about(0, 2), 40);
        OneCall y = made(1);
        due("nobody hears", y.say(1), 0);
        due("call(0, 1)", y.call(0, 1), 0);
    }

    static void again() {
        OneCall x = made(3, SEVERAL, DEAF);
        due("again(0)", x.again(0), NONE);
        due("off", x.off(1, 1), 0);
        sayAll(x, 5, 2);
        for (int c : FAR) due("again(" + c + ")", x.again(c), NONE);
        due("again(2)", x.again(2), NONE);
        due("off", x.off(1, 0), 1);
        due("again(0)", x.again(0), 2);
        due("call(2, 0)", x.call(2, 0), 5);
        due("call(2, 1)", x.call(2, 1), 2);
        due("call(2, 2): new only for the one that missed it", x.call(2, 2), 1);
        due("call(0, 1) is as it was", x.call(0, 1), 1);
        due("rowOf(1, 0)", x.rowOf(1, 0), 5);
        due("rowOf(0, 2)", x.rowOf(0, 2), 5);
        fill(x);
        due("FULL", x.again(0), FULL);
        due("NONE is told first", x.again(40), NONE);
        due("count(2)", x.count(2), 40);
    }

    static void call() {
        OneCall x = made(3, SEVERAL, ANY, HOLDING, DEAF);
        give(x, 0, 1, 2);
        give(x, 2, 6, 5);
        due("off", x.off(3, 1), 0);
        sayAll(x, 3, 4);
        due("call(0, 0)", x.call(0, 0), 3);
        due("call(0, 1)", x.call(0, 1), 3);
        due("call(0, 2): no news for those that have 1 and 2, or 6 and 5", x.call(0, 2), 1);
        due("call(1, 0)", x.call(1, 0), 4);
        due("call(1, 1)", x.call(1, 1), 3);
        due("call(1, 2)", x.call(1, 2), 3);
        due("call(2, 0)", x.call(2, 0), NONE);
        for (int w : new int[] {-1, 3, Integer.MIN_VALUE, Integer.MAX_VALUE}) due("call(0, " + w + ")", x.call(0, w), NONE);
        for (int c : FAR) for (int w = 0; w < 3; w++) due("call(" + c + ", w)", x.call(c, w), NONE);
    }

    static void sum() {
        OneCall x = new OneCall();
        x.piece(0x0F0F0F0F0F0F0F0FL);
        x.piece(-1L);
        x.piece(0xFF00000000000000L);
        sayAll(x, 3, 6, 7, 4);
        due("sum(0)", x.sum(0), 0xF0F0F0F0F0F0F0F0L);
        due("sum(1)", x.sum(1), 0x00FFFFFFFFFFFFFFL);
        due("sum(2)", x.sum(2), 0x0FF0F0F0F0F0F0F0L);
        due("sum(3)", x.sum(3), 0xFF00000000000000L);
        due("sum(4)", x.sum(4), 0);
        for (int c : FAR) due("sum(" + c + ")", x.sum(c), 0);
    }

    static void heard() {
        OneCall x = made(1, DEAF, ONE, ANY);
        for (int c = 0; c < 40; c++) {
            x.off(0, c % 3 == 0 ? 1 : 0);
            due("say", x.say(1), c);
        }
        for (int c = 0; c < 40; c++) {
            due("heard(0, " + c + ")", x.heard(0, c), c % 3 == 0 ? 0 : 1);
            due("heard(1, " + c + ")", x.heard(1, c), 1);
            due("heard(2, " + c + ")", x.heard(2, c), 1);
        }
        due("heard(0, 40)", x.heard(0, 40), NONE);
        due("heard(3, 0)", x.heard(3, 0), NONE);
        for (int f : FAR) {
            due("heard(" + f + ", 0)", x.heard(f, 0), NONE);
            due("heard(0, " + f + ")", x.heard(0, f), NONE);
        }
        due("a late one", x.listener(SEVERAL), 3);
        due("heard(3, 39)", x.heard(3, 39), 0);
    }

    static void aboutIs(OneCall x, int l, int... wants) {
        for (int w = 0; w < 8; w++) due("about(" + l + ", " + w + ")", x.about(l, w), wants[w]);
    }

    static void about() {
        OneCall x = made(4, ONE, SEVERAL, ANY, HOLDING, DEAF);
        aboutIs(x, 1, 1, 0, 0, 0, 4, 0, 1, 0);
        aboutIs(x, 2, 2, 0, 0, 0, 4, 0, 0, 0);
        wish(x, 0, 1);
        wish(x, 1, 0, 3);
        wish(x, 3, 2);
        wish(x, 4, 3);
        give(x, 0, 1);
        give(x, 2, 1, 2);
        give(x, 3, 3, 6, 5);
        due("off", x.off(4, 1), 0);
        aboutIs(x, 0, 0, 1, 1, 1, 3, 2, 0, 0);
        aboutIs(x, 2, 2, 2, 2, 2, 2, 0, 0, 0);
        aboutIs(x, 3, 3, 3, 3, 2, 2, 4, 0, 0);
        aboutIs(x, 4, 4, 0, 0, 0, 4, 8, 0, 1);
        sayAll(x, 3, 8, 10);
        aboutIs(x, 0, 0, 1, 4, 3, 1, 2, 1, 0);
        aboutIs(x, 1, 1, 0, 3, 3, 1, 9, 1, 0);
        aboutIs(x, 2, 2, 2, 5, 3, 1, 0, 1, 0);
        aboutIs(x, 3, 3, 3, 6, 4, 0, 4, 1, 0);
        aboutIs(x, 4, 4, 0, 0, 0, 4, 8, 0, 1);
        for (int w : new int[] {-1, 8, Integer.MIN_VALUE, Integer.MAX_VALUE}) due("about(0, " + w + ")", x.about(0, w), NONE);
        for (int l : FAR) for (int w = 0; w < 8; w++) due("about(" + l + ", " + w + ")", x.about(l, w), NONE);
        due("about(5, 0)", x.about(5, 0), NONE);

        OneCall any = new OneCall();
        any.listener(ANY);
        due("no piece at all: it has them all", any.about(0, 6), 1);
        any.piece(1);
        due("a piece that it has not", any.about(0, 6), 0);
        any.has(0, 1);
        due("it has them all", any.about(0, 6), 1);
        any.piece(2);
        due("one more", any.about(0, 6), 0);
        any.piece(4);
        sayAll(any, 6);
        due("6 brings nothing out", any.about(0, 6), 0);
        sayAll(any, 1);
        due("a piece that it has is nothing", any.about(0, 6), 0);
        sayAll(any, 5);
        due("5 with 1 is 4", any.about(0, 6), 1);

        OneCall later = made(2, SEVERAL);
        due("nothing wanted", later.about(0, 6), 1);
        sayAll(later, 1);
        wish(later, 0, 1);
        due("wanted later", later.about(0, 6), 0);
        wish(later, 0, 0);
        sayAll(later, 3);
        due("SERVED", later.about(0, 6), 1);
    }

    static void rowOf() {
        OneCall x = made(4, HOLDING, DEAF);
        give(x, 0, 12, 3, 15);
        due("off", x.off(1, 1), 0);
        sayAll(x, 5);
        due("off", x.off(1, 0), 1);
        sayAll(x, 9, 5);
        int[] rows = {12, 3, 15, 5, 9, 5};
        for (int k = 0; k < rows.length; k++) due("rowOf(0, " + k + ")", x.rowOf(0, k), rows[k]);
        due("rowOf(0, 6)", x.rowOf(0, 6), NONE);
        due("rowOf(1, 0)", x.rowOf(1, 0), 9);
        due("rowOf(1, 1)", x.rowOf(1, 1), 5);
        due("rowOf(1, 2)", x.rowOf(1, 2), NONE);
        for (int f : FAR) {
            due("rowOf(0, " + f + ")", x.rowOf(0, f), NONE);
            due("rowOf(" + f + ", 0)", x.rowOf(f, 0), NONE);
        }
        due("rowOf(2, 0)", x.rowOf(2, 0), NONE);
        OneCall y = made(4, HOLDING);
        give(y, 0, 1, 2, 3, 4, 5, 6, 7, 8, 9, 10, 11, 12);
        for (int c = 0; c < 40; c++) y.say(1 + c % 15);
        due("the last of 52", y.rowOf(0, 51), 1 + 39 % 15);
        due("one behind", y.rowOf(0, 52), NONE);
        due("about(0, 2)", y.about(0, 2), 52);
    }

    static void solve() {
        OneCall x = made(3, HOLDING, SEVERAL);
        give(x, 0, 3, 6);
        for (int p = 0; p < 3; p++) due("solve(0, " + p + ")", x.solve(0, p), 0);
        sayAll(x, 7);
        for (int p = 0; p < 3; p++) due("3, 6, 7 bring all out", x.solve(0, p), 1);
        for (int p = 0; p < 3; p++) due("7 alone brings nothing out", x.solve(1, p), 0);
        due("solve(0, 3)", x.solve(0, 3), NONE);
        due("solve(2, 0)", x.solve(2, 0), NONE);
        for (int f : FAR) {
            due("solve(0, " + f + ")", x.solve(0, f), NONE);
            due("solve(" + f + ", 0)", x.solve(f, 0), NONE);
        }
    }

    static void why() {
        OneCall x = made(3, HOLDING, SEVERAL);
        give(x, 0, 3, 6, 5);
        sayAll(x, 3, 7, 1);
        // New are rows 0 (3), 1 (6) and 4 (7): 5 is 3 and 6, the call 3 is row 0 anew, 1 is 6 and 7.
        due("piece 0: 6 and 7", x.why(0, 0), 0b10010);
        due("piece 1: 3, 6 and 7", x.why(0, 1), 0b10011);
        due("piece 2: 3 and 7", x.why(0, 2), 0b10001);
        // The other one heard 3, 7, 1, all new.
        due("piece 0: 1", x.why(1, 0), 0b100);
        due("piece 1: 3 and 1", x.why(1, 1), 0b101);
        due("piece 2: 3 and 7", x.why(1, 2), 0b011);
        due("why(0, 3)", x.why(0, 3), -1);
        due("why(2, 0)", x.why(2, 0), -1);
        for (int f : FAR) {
            due("why(0, " + f + ")", x.why(0, f), -1);
            due("why(" + f + ", 0)", x.why(f, 0), -1);
        }
        OneCall y = made(2, SEVERAL);
        due("nothing known", y.why(0, 0), -1);
        sayAll(y, 3);
        due("not worked out", y.why(0, 0), -1);
        sayUpTo(y, 39, 3);
        due("the last call", y.say(2), 39);
        due("by the first and the last", y.why(0, 0), 1L << 39 | 1L);
        due("by the last", y.why(0, 1), 1L << 39);

        // Twelve sums over three pieces' span, then thirty-nine calls that are not new, then one that is.
        OneCall z = made(5, HOLDING);
        give(z, 0, 1, 2, 3, 4, 5, 6, 7, 8, 9, 10, 11, 12);
        sayUpTo(z, 39, 15);
        due("the last call", z.say(31), 39);
        due("row 51 with 0, 1, 3 and 7", z.why(0, 4), 1L << 51 | 1L << 0 | 1L << 1 | 1L << 3 | 1L << 7);
    }

    static void gets() {
        OneCall x = new OneCall();
        long[] values = {0x123456789ABCDEFL, -5L, Long.MIN_VALUE, 0L};
        for (long v : values) x.piece(v);
        x.listener(HOLDING);
        x.listener(DEAF);
        give(x, 0, 3, 6);
        due("off", x.off(1, 1), 0);
        due("not yet", x.gets(0, 0), 0);
        sayAll(x, 7, 13);
        for (int p = 0; p < 4; p++) due("gets(0, " + p + ")", x.gets(0, p), values[p]);
        for (int p = 0; p < 4; p++) due("gets(1, " + p + ")", x.gets(1, p), 0);
        due("gets(0, 4)", x.gets(0, 4), 0);
        due("gets(2, 0)", x.gets(2, 0), 0);
        for (int f : FAR) {
            due("gets(0, " + f + ")", x.gets(0, f), 0);
            due("gets(" + f + ", 0)", x.gets(f, 0), 0);
        }
    }

    static void lack() {
        OneCall x = made(4, SEVERAL, HOLDING);
        give(x, 0, 4);
        give(x, 1, 3, 12);
        due("lack(0, 0)", x.lack(0, 0), 1);
        due("lack(0, 3)", x.lack(0, 3), 8);
        due("WORKED OUT", x.lack(0, 2), NONE);
        due("0 and 1 go together", x.lack(1, 0), 3);
        due("0 and 1 go together", x.lack(1, 1), 3);
        due("2 and 3 go together", x.lack(1, 2), 12);
        sayAll(x, 6);
        due("all four together", x.lack(1, 0), 15);
        due("all four together", x.lack(1, 3), 15);
        due("4 and 6 bring 2 out", x.lack(0, 1), NONE);
        sayAll(x, 8);
        for (int p = 0; p < 4; p++) due("all WORKED OUT", x.lack(1, p), NONE);
        due("lack(0, 4)", x.lack(0, 4), NONE);
        due("lack(2, 0)", x.lack(2, 0), NONE);
        for (int f : FAR) {
            due("lack(0, " + f + ")", x.lack(0, f), NONE);
            due("lack(" + f + ", 0)", x.lack(f, 0), NONE);
        }
        OneCall z = made(5, HOLDING);
        give(z, 0, 1, 2, 3, 4, 5, 6, 7, 8, 9, 10, 11, 12);
        sayUpTo(z, 40, 15);
        due("with all 52 rows", z.lack(0, 4), 16);
        due("with all 52 rows", z.lack(0, 3), NONE);
        OneCall y = made(3, HOLDING);
        give(y, 0, 7);
        due("7: 0 goes with 1 or 2, 3 is less than 5", y.lack(0, 0), 3);
        due("1 goes with 0", y.lack(0, 1), 3);
        due("2 goes with 0 or 1, 5 is less than 6", y.lack(0, 2), 5);
    }

    static void left() {
        OneCall x = made(2, SEVERAL, ANY, DEAF);
        due("only the ANY", x.left(), 1);
        wish(x, 0, 0);
        wish(x, 2, 1);
        due("all three", x.left(), 3);
        due("off", x.off(2, 1), 0);
        sayAll(x, 1);
        due("the DEAF one", x.left(), 1);
        sayAll(x, 2);
        due("it does not hear", x.left(), 1);
        due("off", x.off(2, 0), 1);
        due("again(1)", x.again(1), 2);
        due("none", x.left(), 0);
    }

    static void needs() {
        OneCall x = made(10, SEVERAL, ANY, HOLDING, DEAF);
        due("none", x.needs(), 0);
        for (int l : new int[] {0, 2, 3}) wish(x, l, 0, 1, 2, 3, 4, 5, 6, 7, 8, 9);
        due("thirty", x.needs(), 30);
        give(x, 0, 1, 2);
        due("two fewer", x.needs(), 28);
        give(x, 2, 3, 6);
        due("no piece worked out by sums", x.needs(), 28);
        sayAll(x, 1);
        due("1 brings out three for the HOLDING, one for the DEAF", x.needs(), 24);
        OneCall y = made(10, SEVERAL, SEVERAL, SEVERAL, SEVERAL, SEVERAL, SEVERAL, SEVERAL, SEVERAL, SEVERAL, SEVERAL);
        for (int l = 0; l < 10; l++) wish(y, l, 0, 1, 2, 3, 4, 5, 6, 7, 8, 9);
        due("a hundred", y.needs(), 100);
        due("the last one's listener", y.need(99, 0), 9);
        due("the last one's piece", y.need(99, 1), 9);
        due("one behind", y.need(100, 0), NONE);
    }

    static void need() {
        OneCall x = made(4, SEVERAL, ANY, ONE, HOLDING);
        wish(x, 0, 3, 1, 0);
        wish(x, 2, 2);
        wish(x, 3, 2, 1);
        give(x, 0, 2);
        int[][] list = {{0, 0}, {0, 3}, {2, 2}, {3, 1}, {3, 2}};
        for (int i = 0; i < list.length; i++) {
            due("need(" + i + ", 0)", x.need(i, 0), list[i][0]);
            due("need(" + i + ", 1)", x.need(i, 1), list[i][1]);
        }
        due("need(5, 0)", x.need(5, 0), NONE);
        for (int f : FAR) {
            due("need(" + f + ", 0)", x.need(f, 0), NONE);
            due("need(0, " + f + ")", x.need(0, f), NONE);
        }
        due("need(0, 2)", x.need(0, 2), NONE);
        sayAll(x, 1);
        due("need(0, 1)", x.need(0, 1), 3);
    }

    static OneCall tenNeeds(int more) {
        OneCall x = made(10, SEVERAL, SEVERAL);
        wish(x, 0, 0, 1, 2, 3, 4, 5, 6, 7, 8, 9);
        if (more > 0) wish(x, 1, 3);
        return x;
    }

    static void below() {
        OneCall ring = made(3, ONE, ONE, ONE);
        for (int l = 0; l < 3; l++) {
            wish(ring, l, l);
            give(ring, l, 1 << (l + 1) % 3);
        }
        due("each has the next one's", ring.below(), 2);
        OneCall all = made(3, ONE, ONE, ONE);
        for (int l = 0; l < 3; l++) {
            wish(all, l, l);
            give(all, l, 7 & ~(1 << l) & -(7 & ~(1 << l)), (7 & ~(1 << l)) & (7 & ~(1 << l)) - 1);
        }
        due("each has all others'", all.below(), 1);
        OneCall same = made(2, ONE, ONE, ONE);
        for (int l = 0; l < 3; l++) wish(same, l, 1);
        due("one piece wanted by three", same.below(), 1);
        due("ten needs", tenNeeds(0).below(), 10);
        due("eleven", tenNeeds(1).below(), STATE);
        OneCall fewer = tenNeeds(1);
        sayAll(fewer, 8);
        due("nine are left", fewer.below(), 9);
        OneCall any = made(3, ANY);
        due("an ANY needs nothing", any.below(), 0);
    }

    static void order() {
        OneCall chain = made(3, ONE, ONE, ONE);
        for (int l = 0; l < 3; l++) wish(chain, l, l);
        give(chain, 0, 2, 4);
        give(chain, 1, 4);
        // Listener 2 lacks all, 1 lacks piece 0, 0 lacks only its own: 2, 1, 0 is the one order of three.
        order(chain, 2, 1, 0);
        OneCall free = made(3, ONE, SEVERAL);
        wish(free, 0, 1);
        wish(free, 1, 2, 0);
        order(free, 0, 1, 2);
        OneCall same = made(2, ONE, ONE, ONE);
        wish(same, 0, 1);
        wish(same, 1, 0);
        wish(same, 2, 1);
        order(same, 0, 1);
        OneCall holds = made(2, HOLDING, HOLDING);
        wish(holds, 0, 0);
        wish(holds, 1, 1);
        give(holds, 0, 3);
        give(holds, 1, 3);
        order(holds, 0, 1);
        order(tenNeeds(0), 0, 1, 2, 3, 4, 5, 6, 7, 8, 9);
        for (int i = -1; i < 12; i++) due("eleven", tenNeeds(1).order(i), NONE);
    }

    static void above() {
        OneCall ring = made(3, ONE, ONE, ONE);
        for (int l = 0; l < 3; l++) {
            wish(ring, l, l);
            give(ring, l, 1 << (l + 1) % 3);
        }
        due("no two help each other", ring.above(), 3);
        due("ten needs", tenNeeds(0).above(), 10);
        due("eleven", tenNeeds(1).above(), STATE);
        OneCall same = made(2, ONE, ONE, ONE);
        for (int l = 0; l < 3; l++) wish(same, l, 1);
        due("one piece wanted by three", same.above(), 1);
        OneCall any = made(3, ANY);
        due("an ANY needs nothing", any.above(), 0);
        OneCall self = made(2, SEVERAL);
        wish(self, 0, 0, 1);
        due("one listener, two pieces", self.above(), 2);
    }

    /** Five in a ring, each of which has what its two neighbours want: groups of two at most. */
    static OneCall five() {
        OneCall x = made(5, ONE, ONE, ONE, ONE, ONE);
        for (int l = 0; l < 5; l++) {
            wish(x, l, l);
            give(x, l, 1 << (l + 1) % 5, 1 << (l + 4) % 5);
        }
        return x;
    }

    static void group() {
        // Three groups are needed, and 0 may stand alone: then 1 with 2, 3 with 4.
        groups(five(), 1, 6, 24);
        OneCall pairs = made(4, ONE, ONE, ONE, ONE);
        for (int l = 0; l < 4; l++) {
            wish(pairs, l, l);
            give(pairs, l, 1 << (l + 2) % 4);
        }
        groups(pairs, 5, 10);
        OneCall all = made(3, ONE, ONE, ONE, ONE);
        wish(all, 0, 0);
        wish(all, 1, 1);
        wish(all, 2, 2);
        wish(all, 3, 2);
        give(all, 0, 2, 4);
        give(all, 1, 1, 4);
        give(all, 2, 1, 2);
        // Need 3 is for the same piece as need 2, but its listener has nothing.
        groups(all, 3, 12);
        groups(tenNeeds(0), 1, 2, 4, 8, 16, 32, 64, 128, 256, 512);
        for (int k = -1; k < 12; k++) due("eleven", tenNeeds(1).group(k), NONE);
    }

    static void leastOf() {
        due("five in a ring", five().least(), 3);
        OneCall two = made(2, ONE, ONE);
        wish(two, 0, 0);
        wish(two, 1, 1);
        give(two, 0, 2);
        give(two, 1, 1);
        due("one sum for both", two.least(), 1);
        OneCall all = made(5, SEVERAL);
        wish(all, 0, 0, 1, 2, 3, 4);
        due("five", all.least(), 5);
        OneCall six = made(6, SEVERAL);
        due("six pieces", six.least(), STATE);
        OneCall served = made(5, SEVERAL);
        due("nothing wanted", served.least(), 0);
        OneCall deaf = made(1, DEAF);
        wish(deaf, 0, 0);
        due("off", deaf.off(0, 1), 0);
        due("a DEAF one that is OFF is thought to hear", deaf.least(), 1);
        due("and nothing is said", deaf.count(2), 0);
    }

    static void planned() {
        OneCall two = made(2, ONE, ONE);
        wish(two, 0, 0);
        wish(two, 1, 1);
        give(two, 0, 2);
        give(two, 1, 1);
        least(two, 3);
        OneCall all = made(5, SEVERAL);
        wish(all, 0, 0, 1, 2, 3, 4);
        least(all, 1, 2, 4, 8, 16);
        OneCall top = made(5, ONE, ANY);
        wish(top, 0, 4);
        give(top, 1, 16);
        // One sum for both: listener 0 needs piece 4 alone, which the ANY has. So two, and 1 with 16.
        least(top, 1, 16);
        OneCall sums = made(4, HOLDING, ONE);
        wish(sums, 0, 3);
        wish(sums, 1, 2);
        give(sums, 0, 12);
        least(sums, 4);
        least(made(5, SEVERAL));
        OneCall six = made(6, SEVERAL);
        wish(six, 0, 0);
        for (int i = -1; i < 7; i++) due("six pieces", six.planned(i), NONE);
        OneCall any = made(3, ANY, ANY, ANY);
        give(any, 0, 1);
        give(any, 1, 2);
        give(any, 2, 4);
        // No one MASK does for all three; 1 does for two of them, 2 for the one that has piece 0.
        least(any, 1, 2);
    }

    static void plan() {
        OneCall x = made(3, SEVERAL, DEAF);
        wish(x, 0, 0, 1);
        wish(x, 1, 2);
        due("off", x.off(1, 1), 0);
        due("none", x.plan(0, 0, 0, 0), 0);
        due("two", x.plan(1, 2, 0, 0), 0);
        due("three", x.plan(1, 2, 4, 0), 1);
        due("three that are sums", x.plan(7, 3, 6, 0), 1);
        due("three, one of them for nothing", x.plan(7, 3, 4, 0), 0);
        due("four, one twice", x.plan(4, 4, 2, 1), 1);
        due("four, in any order", x.plan(4, 2, 6, 1), 1);
        due("behind a 0", x.plan(0, 1, 0, 0), BAD);
        due("behind a 0", x.plan(1, 0, 2, 0), BAD);
        due("behind a 0", x.plan(1, 2, 0, 4), BAD);
        due("behind all 0", x.plan(0, 0, 0, 7), BAD);
        for (int m : new int[] {-1, 8, 9, Integer.MIN_VALUE, Integer.MAX_VALUE}) {
            due("first " + m, x.plan(m, 0, 0, 0), BAD);
            due("second " + m, x.plan(1, m, 0, 0), BAD);
            due("third " + m, x.plan(1, 2, m, 0), BAD);
            due("fourth " + m, x.plan(1, 2, 4, m), BAD);
        }
        due("nothing was said", x.count(2), 0);
        due("nothing is known", x.about(0, 3), 0);
        OneCall big = made(10, SEVERAL);
        wish(big, 0, 9);
        due("with ten pieces", big.plan(513, 1, 0, 0), 1);
        due("with ten pieces", big.plan(513, 2, 0, 0), 0);
        sayAll(big, 1);
        due("with what was said", big.plan(513, 0, 0, 0), 1);
        OneCall full = made(2, SEVERAL);
        wish(full, 0, 1);
        fill(full);
        due("also when FULL", full.plan(3, 0, 0, 0), 1);
    }

    static void goOn() {
        OneCall x = made(3, ONE, ONE, ONE);
        for (int l = 0; l < 3; l++) wish(x, l, l);
        give(x, 0, 2);
        give(x, 1, 1);
        due("3 serves two", x.goOn(), 3);
        due("4 serves the last", x.goOn(), 4);
        due("none is left", x.goOn(), 0);
        due("count(2)", x.count(2), 2);
        due("call(1, 0)", x.call(1, 0), 4);
        due("call(1, 1)", x.call(1, 1), 3);

        OneCall second = made(3, SEVERAL, SEVERAL);
        wish(second, 0, 0, 1);
        wish(second, 1, 1, 2);
        give(second, 0, 4);
        // None serves; 4 is no news for the first: 1 is the least that is news for both.
        due("the least that is news for most", second.goOn(), 1);
        due("then 2 serves the first", second.goOn(), 2);
        due("then 4", second.goOn(), 4);
        due("left()", second.left(), 0);

        OneCall news = made(2, SEVERAL, SEVERAL, SEVERAL);
        wish(news, 0, 0, 1);
        wish(news, 1, 0, 1);
        due("nobody is served, all get nearer", news.goOn(), 1);

        OneCall most = made(3, HOLDING, HOLDING);
        wish(most, 0, 0, 1, 2);
        wish(most, 1, 0, 1, 2);
        give(most, 0, 1);
        give(most, 1, 2);
        due("1 and 2 are news for one, 3 for both", most.goOn(), 3);

        OneCall few = made(3, ONE, SEVERAL, SEVERAL, SEVERAL, SEVERAL, SEVERAL, SEVERAL, SEVERAL, SEVERAL, SEVERAL);
        wish(few, 0, 2);
        for (int l = 1; l < 10; l++) {
            wish(few, l, 0, 1);
            give(few, l, 4);
        }
        due("one served is more than ten that get nearer", few.goOn(), 4);
        due("then all nine get nearer", few.goOn(), 1);
        due("then all nine are served", few.goOn(), 2);

        OneCall served = made(2, SEVERAL, SEVERAL, ONE, ONE);
        wish(served, 0, 0, 1);
        wish(served, 1, 0, 1);
        give(served, 0, 1);
        give(served, 1, 1);
        due("2 serves both; those SERVED already, who would get nearer by 1, don't count", served.goOn(), 2);

        OneCall deaf = made(2, DEAF);
        wish(deaf, 0, 1);
        due("off", deaf.off(0, 1), 0);
        due("nobody hears", deaf.goOn(), 0);
        due("count(2)", deaf.count(2), 0);
        due("off", deaf.off(0, 0), 1);
        due("it hears", deaf.goOn(), 2);

        OneCall half = made(2, DEAF, ONE);
        wish(half, 0, 0);
        wish(half, 1, 1);
        due("off", half.off(0, 1), 0);
        due("only for the one that hears", half.goOn(), 2);
        due("left()", half.left(), 1);
        due("goOn()", half.goOn(), 0);

        OneCall any = made(3, ANY, ANY);
        give(any, 0, 1);
        give(any, 1, 2);
        due("3 brings out a piece for both", any.goOn(), 3);

        OneCall full = made(2, SEVERAL);
        wish(full, 0, 1);
        fill(full);
        due("FULL", full.goOn(), FULL);
        due("count(2)", full.count(2), 40);
        OneCall fullAndServed = made(1, SEVERAL);
        fill(fullAndServed);
        due("FULL, with nobody left, too", fullAndServed.goOn(), FULL);
    }

    static void finish() {
        OneCall x = made(3, SEVERAL, ANY);
        wish(x, 0, 0, 1, 2);
        due("three", x.finish(), 3);
        due("none more", x.finish(), 0);
        due("left()", x.left(), 0);
        due("count(2)", x.count(2), 3);
        OneCall full = made(3, SEVERAL);
        wish(full, 0, 0, 1, 2);
        sayUpTo(full, 39, 1);
        due("FULL after one", full.finish(), 1);
        due("FULL at once", full.finish(), 0);
        due("count(2)", full.count(2), 40);
        due("left()", full.left(), 1);
        OneCall deaf = made(2, DEAF, ONE);
        wish(deaf, 0, 0);
        wish(deaf, 1, 1);
        due("off", deaf.off(0, 1), 0);
        due("one hears", deaf.finish(), 1);
        due("left()", deaf.left(), 1);
        OneCall ten = tenNeeds(1);
        due("ten", ten.finish(), 10);
    }

    static void count() {
        OneCall x = made(3, SEVERAL, ANY, HOLDING);
        wish(x, 0, 0);
        wish(x, 2, 2);
        give(x, 2, 3, 6, 5);
        int[] before = {3, 3, 0, 0, 2};
        for (int w = 0; w < 5; w++) due("count(" + w + ")", x.count(w), before[w]);
        sayAll(x, 1, 1);
        int[] after = {3, 3, 2, 3, 1 + 1 + 3};
        for (int w = 0; w < 5; w++) due("count(" + w + ")", x.count(w), after[w]);
        due("count(5)", x.count(5), NONE);
        for (int w : FAR) due("count(" + w + ")", x.count(w), NONE);
    }

    static void run(int number) {
        promise = number;
        switch (number) {
            case 1 -> newObject();
            case 2 -> piece();
            case 3 -> bytes();
            case 4 -> listener();
            case 5 -> wants();
            case 6 -> has();
            case 7 -> off();
            case 8 -> say();
            case 9 -> again();
            case 10 -> call();
            case 11 -> sum();
            case 12 -> heard();
            case 13 -> about();
            case 14 -> rowOf();
            case 15 -> solve();
            case 16 -> why();
            case 17 -> gets();
            case 18 -> lack();
            case 19 -> left();
            case 20 -> needs();
            case 21 -> need();
            case 22 -> below();
            case 23 -> order();
            case 24 -> above();
            case 25 -> group();
            case 26 -> leastOf();
            case 27 -> planned();
            case 28 -> plan();
            case 29 -> goOn();
            case 30 -> finish();
            default -> count();
        }
    }

    public static void main(String[] args) {
        for (int number = 1; number <= 31; number++) run(number);
        System.out.println(asked + " answers, " + wrong + " not as due");
        if (wrong != 0) System.exit(1);
    }
}
