import java.util.ArrayList;

/**
 * One speaks, all hear: PIECES that LISTENERS lack, CALLS that are SUMS of PIECES, what each LISTENER
 * can work out of them, and how few CALLS will do. The words in capitals are those of the document.
 */
public final class OneCall {
    public static final int NONE = -1, BAD = -2, KIND = -3, FULL = -4, STATE = -5;

    private static final int ONE = 0, ANY = 2, HOLDING = 3, DEAF = 4;
    private static final int MOST_PIECES = 10, MOST_LISTENERS = 10, MOST_HAD = 12, MOST_CALLS = 40;
    private static final int MOST_SORTED_NEEDS = 10, MOST_PLANNED_PIECES = 5, TRIED_MASKS = 4;

    private final long[] pieces;
    private int pieceCount;
    private final ArrayList<Listener> listeners;
    private final int[] callMasks;
    private final int[] callHearers;
    private final int[] callNews;
    private int callCount;
    private final Needs openNeeds;
    private final Knowledge trial;
    private final int[] planRow;

    public OneCall() {
        pieces = new long[MOST_PIECES];
        listeners = new ArrayList<Listener>();
        callMasks = new int[MOST_CALLS];
        callHearers = new int[MOST_CALLS];
        callNews = new int[MOST_CALLS];
        openNeeds = new Needs();
        trial = new Knowledge();
        planRow = new int[MOST_PLANNED_PIECES];
    }

    // ---- what there is ----

    public int piece(long v) {
        if (callCount > 0) {
            return STATE;
        }
        if (pieceCount >= MOST_PIECES) {
            return FULL;
        }
        pieces[pieceCount] = v;
        pieceCount++;
        return pieceCount - 1;
    }

    public long bytes(int p) {
        return isPiece(p) ? pieces[p] : 0L;
    }

    public int listener(int kind) {
        if (kind < ONE || kind > DEAF) {
            return BAD;
        }
        if (listeners.size() >= MOST_LISTENERS) {
            return FULL;
        }
        listeners.add(new Listener(kind));
        return listeners.size() - 1;
    }

    public int wants(int l, int p) {
        if (!isListener(l) || !isPiece(p)) {
            return NONE;
        }
        Listener who = listeners.get(l);
        if (who.kind == ANY) {
            return KIND;
        }
        if (isIn(p, who.wanted)) {
            return 0;
        }
        if (who.kind == ONE && who.wanted != 0) {
            return FULL;
        }
        who.wanted |= 1 << p;
        return 1;
    }

    public int has(int l, int mask) {
        if (!isListener(l)) {
            return NONE;
        }
        Listener who = listeners.get(l);
        if (!isMask(mask) || !who.mayHave(mask)) {
            return BAD;
        }
        if (callCount > 0) {
            return STATE;
        }
        if (who.hadCount >= MOST_HAD) {
            return FULL;
        }
        who.getSum(mask);
        return who.hadCount;
    }

    public int off(int l, int off) {
        if (!isListener(l)) {
            return NONE;
        }
        Listener who = listeners.get(l);
        if (who.kind != DEAF) {
            return KIND;
        }
        if (off != 0 && off != 1) {
            return BAD;
        }
        int before = oneIf(who.isOff);
        who.isOff = off == 1;
        return before;
    }

    // ---- calls ----

    public int say(int mask) {
        if (!isMask(mask)) {
            return BAD;
        }
        return speak(mask);
    }

    public int again(int call) {
        if (!isCall(call)) {
            return NONE;
        }
        return speak(callMasks[call]);
    }

    public int call(int call, int what) {
        if (!isCall(call)) {
            return NONE;
        }
        switch (what) {
            case 0: return callMasks[call];
            case 1: return callHearers[call];
            case 2: return callNews[call];
            default: return NONE;
        }
    }

    public long sum(int call) {
        return isCall(call) ? bytesOf(callMasks[call]) : 0L;
    }

    public int heard(int l, int call) {
        if (!isListener(l) || !isCall(call)) {
            return NONE;
        }
        return (int) (listeners.get(l).heardCalls >> call & 1L);
    }

    // ---- what a listener knows ----

    public int about(int l, int what) {
        if (!isListener(l)) {
            return NONE;
        }
        Listener who = listeners.get(l);
        switch (what) {
            case 0: return who.kind;
            case 1: return who.hadCount;
            case 2: return who.rowCount;
            case 3: return who.known.rank;
            case 4: return pieceCount - who.known.rank;
            case 5: return who.wanted;
            case 6: return oneIf(isServed(who));
            case 7: return oneIf(who.isOff);
            default: return NONE;
        }
    }

    public int rowOf(int l, int k) {
        if (!isListener(l)) {
            return NONE;
        }
        Listener who = listeners.get(l);
        return k >= 0 && k < who.rowCount ? who.rows[k] : NONE;
    }

    public int solve(int l, int p) {
        if (!isListener(l) || !isPiece(p)) {
            return NONE;
        }
        return oneIf(hasWorkedOut(l, p));
    }

    public long why(int l, int p) {
        return hasWorkedOut(l, p) ? listeners.get(l).known.by[p] : -1L;
    }

    public long gets(int l, int p) {
        if (!hasWorkedOut(l, p)) {
            return 0L;
        }
        Listener who = listeners.get(l);
        long wanted = who.known.by[p];
        long result = 0L;
        for (int k = 0; k < who.rowCount; k++) {
            if ((wanted >> k & 1L) != 0L) {
                result ^= bytesOf(who.rows[k]);
            }
        }
        return result;
    }

    public int lack(int l, int p) {
        if (!isListener(l) || !isPiece(p) || hasWorkedOut(l, p)) {
            return NONE;
        }
        Listener who = listeners.get(l);
        for (int mask = 1 << p; mask <= allPieces(); mask++) {
            if (isIn(p, mask) && who.isEvenInAllRows(mask)) {
                return mask;
            }
        }
        return NONE;
    }

    public int left() {
        return listeners.size() - servedCount();
    }

    // ---- needs, orders, groups ----

    public int needs() {
        findNeeds();
        return openNeeds.size;
    }

    public int need(int i, int what) {
        findNeeds();
        if (i < 0 || i >= openNeeds.size) {
            return NONE;
        }
        switch (what) {
            case 0: return openNeeds.who[i];
            case 1: return openNeeds.piece[i];
            default: return NONE;
        }
    }

    public int below() {
        findNeeds();
        return openNeeds.canBeSorted() ? openNeeds.longestOrder() : STATE;
    }

    public int order(int i) {
        findNeeds();
        return openNeeds.canBeSorted() ? openNeeds.inTheOrder(i) : NONE;
    }

    public int above() {
        findNeeds();
        return openNeeds.canBeSorted() ? openNeeds.fewestGroups() : STATE;
    }

    public int group(int k) {
        findNeeds();
        return openNeeds.canBeSorted() ? openNeeds.inTheGroups(k) : NONE;
    }

    // ---- plans ----

    public int least() {
        return pieceCount > MOST_PLANNED_PIECES ? STATE : findLeast();
    }

    public int planned(int i) {
        if (pieceCount > MOST_PLANNED_PIECES) {
            return NONE;
        }
        int size = findLeast();
        return i >= 0 && i < size ? planRow[i] : NONE;
    }

    public int plan(int a, int b, int c, int d) {
        planRow[0] = a;
        planRow[1] = b;
        planRow[2] = c;
        planRow[3] = d;
        int size = 0;
        for (int i = 0; i < TRIED_MASKS; i++) {
            if (planRow[i] != 0) {
                if (size < i || !isMask(planRow[i])) {
                    return BAD;
                }
                size++;
            }
        }
        return oneIf(isPlan(size));
    }

    public int goOn() {
        if (callCount >= MOST_CALLS) {
            return FULL;
        }
        int mask = bestMask();
        if (mask != 0) {
            speak(mask);
        }
        return mask;
    }

    public int finish() {
        int said = 0;
        while (said < MOST_CALLS && goOn() > 0) {
            said++;
        }
        return said;
    }

    public int count(int what) {
        switch (what) {
            case 0: return pieceCount;
            case 1: return listeners.size();
            case 2: return callCount;
            case 3: return servedCount();
            case 4: return rankOfAll();
            default: return NONE;
        }
    }

    // ---- the workings ----

    private boolean isPiece(int p) {
        return p >= 0 && p < pieceCount;
    }

    private boolean isListener(int l) {
        return l >= 0 && l < listeners.size();
    }

    private boolean isCall(int call) {
        return call >= 0 && call < callCount;
    }

    private boolean isMask(int mask) {
        return mask != 0 && (mask & ~allPieces()) == 0;
    }

    private int allPieces() {
        return (1 << pieceCount) - 1;
    }

    private static boolean isIn(int p, int mask) {
        return (mask >> p & 1) != 0;
    }

    private static int oneIf(boolean holds) {
        return holds ? 1 : 0;
    }

    private long bytesOf(int mask) {
        long result = 0L;
        for (int p = 0; p < pieceCount; p++) {
            if (isIn(p, mask)) {
                result ^= pieces[p];
            }
        }
        return result;
    }

    private int speak(int mask) {
        if (callCount >= MOST_CALLS) {
            return FULL;
        }
        int call = callCount;
        callMasks[call] = mask;
        for (int l = 0; l < listeners.size(); l++) {
            Listener who = listeners.get(l);
            if (!who.isOff) {
                callHearers[call]++;
                callNews[call] += oneIf(who.hear(mask, call));
            }
        }
        callCount++;
        return call;
    }

    private boolean hasWorkedOut(int l, int p) {
        return isListener(l) && isPiece(p) && listeners.get(l).known.isWorkedOut(p);
    }

    private boolean isServed(Listener who) {
        return who.isServedBy(who.known, allPieces());
    }

    private int servedCount() {
        int served = 0;
        for (int l = 0; l < listeners.size(); l++) {
            served += oneIf(isServed(listeners.get(l)));
        }
        return served;
    }

    private int rankOfAll() {
        int result = 0;
        for (int l = 0; l < listeners.size(); l++) {
            result += listeners.get(l).known.rank;
        }
        return result;
    }

    private void findNeeds() {
        openNeeds.size = 0;
        for (int l = 0; l < listeners.size(); l++) {
            Listener who = listeners.get(l);
            int lacked = allPieces() & ~who.known.workedOut();
            for (int p = 0; p < pieceCount; p++) {
                if (isIn(p, who.wanted & lacked)) {
                    openNeeds.put(l, p, lacked);
                }
            }
        }
    }

    /** Puts THE LEAST into planRow: how many MASKS it has. */
    private int findLeast() {
        for (int size = 0; size < pieceCount; size++) {
            if (completes(this, 0, size)) {
                return size;
            }
        }
        // All PIECES said one by one serve everybody: the search for that many always finds a PLAN.
        completes(this, 0, pieceCount);
        return pieceCount;
    }

    /**
     * Fills planRow from place 'at' up to 'size' with the least rising MASKS that make it a PLAN.
     * Whether a row is a PLAN hangs only on the SUMS that its MASKS make; of all rows that make the same
     * ones, the least has in no MASK the highest bit of another. So no other rows are tried.
     */
    private static boolean completes(OneCall all, int at, int size) {
        if (at >= size || at >= all.planRow.length) {
            return all.isPlan(size);
        }
        int last = at == 0 ? 0 : all.planRow[at - 1];
        int highest = all.highestBits(at);
        for (int mask = last + 1; mask <= all.allPieces(); mask++) {
            if ((mask & highest) == 0) {
                all.planRow[at] = mask;
                if (completes(all, at + 1, size)) {
                    return true;
                }
            }
        }
        return false;
    }

    private int highestBits(int size) {
        int result = 0;
        for (int i = 0; i < size && i < planRow.length; i++) {
            result |= Integer.highestOneBit(planRow[i]);
        }
        return result;
    }

    private boolean isPlan(int size) {
        for (int l = 0; l < listeners.size(); l++) {
            Listener who = listeners.get(l);
            trial.become(who.known);
            for (int i = 0; i < size && i < planRow.length; i++) {
                trial.learn(planRow[i], 0L);
            }
            if (!who.isServedBy(trial, allPieces())) {
                return false;
            }
        }
        return true;
    }

    /** The MASK to GO ON with; 0: none. */
    private int bestMask() {
        int waiting = waitingListeners();
        if (waiting == 0) {
            return 0;
        }
        int best = 0;
        int bestWorth = 0;
        for (int mask = 1; mask <= allPieces(); mask++) {
            int worth = worthOf(mask, waiting);
            if (worth > bestWorth) {
                best = mask;
                bestWorth = worth;
            }
        }
        return best;
    }

    /** The LISTENERS (bit l) that would hear a CALL now and are not SERVED. */
    private int waitingListeners() {
        int waiting = 0;
        for (int l = 0; l < listeners.size(); l++) {
            Listener who = listeners.get(l);
            if (!who.isOff && !isServed(who)) {
                waiting |= 1 << l;
            }
        }
        return waiting;
    }

    /** How many of the waiting become SERVED by a MASK, then how many get one FREE less, in one number. */
    private int worthOf(int mask, int waiting) {
        int served = 0;
        int nearer = 0;
        for (int l = 0; l < listeners.size(); l++) {
            if (isIn(l, waiting)) {
                Listener who = listeners.get(l);
                int rest = who.known.restOf(mask);
                if (rest != 0) {
                    nearer++;
                    served += oneIf(who.wouldBeServedBy(rest, allPieces()));
                }
            }
        }
        return served * (MOST_LISTENERS + 1) + nearer;
    }

    /**
     * What can be worked out of some ROWS. Of each PIECE it keeps a rest: the PIECE plus a SUM of ROWS,
     * chosen so that MASKS that differ by a SUM of ROWS have the same rest, and those SUMS the rest 0.
     */
    private static final class Knowledge {
        final int[] rest;
        final long[] by;
        int rank;

        Knowledge() {
            rest = new int[MOST_PIECES];
            by = new long[MOST_PIECES];
            for (int p = 0; p < MOST_PIECES; p++) {
                rest[p] = 1 << p;
            }
        }

        void become(Knowledge other) {
            System.arraycopy(other.rest, 0, rest, 0, MOST_PIECES);
            System.arraycopy(other.by, 0, by, 0, MOST_PIECES);
            rank = other.rank;
        }

        int restOf(int mask) {
            int result = 0;
            for (int p = 0; p < MOST_PIECES; p++) {
                if (isIn(p, mask)) {
                    result ^= rest[p];
                }
            }
            return result;
        }

        /** The NEW ROWS by which a MASK and its rest differ. */
        long rowsOf(int mask) {
            long result = 0L;
            for (int p = 0; p < MOST_PIECES; p++) {
                if (isIn(p, mask)) {
                    result ^= by[p];
                }
            }
            return result;
        }

        /** Takes in a ROW, whose bit is 'row': whether it is NEW. */
        boolean learn(int mask, long row) {
            int gained = restOf(mask);
            if (gained == 0) {
                return false;
            }
            long gainedBy = rowsOf(mask) ^ row;
            int gone = Integer.highestOneBit(gained);
            for (int p = 0; p < MOST_PIECES; p++) {
                if ((rest[p] & gone) != 0) {
                    rest[p] ^= gained;
                    by[p] ^= gainedBy;
                }
            }
            rank++;
            return true;
        }

        boolean isWorkedOut(int p) {
            return p >= 0 && p < MOST_PIECES && rest[p] == 0;
        }

        int workedOut() {
            return workedOutWith(0);
        }

        /** The PIECES that are WORKED OUT once a MASK with this rest is said: those with no other rest. */
        int workedOutWith(int gained) {
            int result = 0;
            for (int p = 0; p < MOST_PIECES; p++) {
                if (rest[p] == 0 || rest[p] == gained) {
                    result |= 1 << p;
                }
            }
            return result;
        }
    }

    private static final class Listener {
        final int kind;
        final int[] rows;
        final Knowledge known;
        int rowCount;
        int hadCount;
        int hadPieces;
        int wanted;
        long heardCalls;
        boolean isOff;

        Listener(int kind) {
            this.kind = kind;
            rows = new int[MOST_HAD + MOST_CALLS];
            known = new Knowledge();
        }

        boolean mayHave(int mask) {
            if (kind != HOLDING && Integer.bitCount(mask) != 1) {
                return false;
            }
            for (int k = 0; k < hadCount; k++) {
                if (rows[k] == mask) {
                    return false;
                }
            }
            return true;
        }

        void getSum(int mask) {
            addRow(mask);
            hadCount++;
            if (Integer.bitCount(mask) == 1) {
                hadPieces |= mask;
            }
        }

        boolean hear(int mask, int call) {
            heardCalls |= 1L << call;
            return addRow(mask);
        }

        private boolean addRow(int mask) {
            if (rowCount >= rows.length) {
                return false;
            }
            rows[rowCount] = mask;
            rowCount++;
            return known.learn(mask, 1L << (rowCount - 1));
        }

        boolean isEvenInAllRows(int mask) {
            for (int k = 0; k < rowCount; k++) {
                if ((Integer.bitCount(rows[k] & mask) & 1) != 0) {
                    return false;
                }
            }
            return true;
        }

        boolean isServedBy(Knowledge knowledge, int allPieces) {
            return isServedWith(knowledge.workedOut(), allPieces);
        }

        boolean wouldBeServedBy(int rest, int allPieces) {
            return isServedWith(known.workedOutWith(rest), allPieces);
        }

        private boolean isServedWith(int workedOut, int allPieces) {
            if (kind == ANY) {
                return hadPieces == allPieces || (workedOut & ~hadPieces) != 0;
            }
            return (wanted & ~workedOut) == 0;
        }
    }

    /** THE NEEDS, and what is asked of them as sets (bit i: NEED i). */
    private static final class Needs {
        final int[] who;
        final int[] piece;
        int size;
        private final int[] lacked;
        private final int[] partners;
        private final int[] table;

        Needs() {
            who = new int[MOST_LISTENERS * MOST_PIECES];
            piece = new int[MOST_LISTENERS * MOST_PIECES];
            lacked = new int[MOST_LISTENERS * MOST_PIECES];
            partners = new int[MOST_SORTED_NEEDS];
            table = new int[1 << MOST_SORTED_NEEDS];
        }

        void put(int listener, int p, int lackedPieces) {
            if (size < who.length) {
                who[size] = listener;
                piece[size] = p;
                lacked[size] = lackedPieces;
                size++;
            }
        }

        boolean canBeSorted() {
            return size <= MOST_SORTED_NEEDS;
        }

        int longestOrder() {
            fillOrders();
            return table[allNeeds()];
        }

        int inTheOrder(int i) {
            if (i < 0 || i >= longestOrder()) {
                return NONE;
            }
            int open = allNeeds();
            for (int place = 0; place < i; place++) {
                open &= partners[firstOfLongest(open)];
            }
            return firstOfLongest(open);
        }

        int fewestGroups() {
            fillGroups();
            return table[allNeeds()];
        }

        int inTheGroups(int k) {
            if (k < 0 || k >= fewestGroups()) {
                return NONE;
            }
            int open = allNeeds();
            for (int place = 0; place < k; place++) {
                open &= ~firstOfFewest(open);
            }
            return firstOfFewest(open);
        }

        private int sortedCount() {
            return Math.min(size, MOST_SORTED_NEEDS);
        }

        private int allNeeds() {
            return (1 << sortedCount()) - 1;
        }

        /** The table then tells of each set how long an ORDER of its NEEDS can be. */
        private void fillOrders() {
            for (int i = 0; i < sortedCount(); i++) {
                partners[i] = canStandBehind(i);
            }
            table[0] = 0;
            for (int set = 1; set <= allNeeds(); set++) {
                int longest = 0;
                for (int i = 0; i < sortedCount(); i++) {
                    if (isIn(i, set)) {
                        longest = Math.max(longest, 1 + table[set & partners[i]]);
                    }
                }
                table[set] = longest;
            }
        }

        private int canStandBehind(int i) {
            int result = 0;
            for (int j = 0; j < sortedCount(); j++) {
                if (piece[i] != piece[j] && isIn(piece[j], lacked[i])) {
                    result |= 1 << j;
                }
            }
            return result;
        }

        private int firstOfLongest(int set) {
            for (int i = 0; i < sortedCount(); i++) {
                if (isIn(i, set) && 1 + table[set & partners[i]] == table[set]) {
                    return i;
                }
            }
            return 0;
        }

        /** The table then tells of each set how few GROUPS its NEEDS can be in: 1 if it is a GROUP. */
        private void fillGroups() {
            for (int i = 0; i < sortedCount(); i++) {
                partners[i] = canBeGroupedWith(i);
            }
            table[0] = 0;
            for (int set = 1; set <= allNeeds(); set++) {
                int first = Integer.numberOfTrailingZeros(set);
                int others = set & (set - 1);
                boolean isGroup = table[others] <= 1 && (others & ~partners[first]) == 0;
                table[set] = isGroup ? 1 : fewestOfSeveral(set);
            }
        }

        private int canBeGroupedWith(int i) {
            int result = 0;
            for (int j = 0; j < sortedCount(); j++) {
                boolean serveEachOther = who[i] != who[j]
                        && !isIn(piece[i], lacked[j]) && !isIn(piece[j], lacked[i]);
                if (piece[i] == piece[j] || serveEachOther) {
                    result |= 1 << j;
                }
            }
            return result;
        }

        private int fewestOfSeveral(int set) {
            int first = Integer.lowestOneBit(set);
            int others = set & ~first;
            int fewest = MOST_SORTED_NEEDS;
            int part = others;
            while (part > 0) {
                part = (part - 1) & others;
                if (table[first | part] == 1) {
                    fewest = Math.min(fewest, 1 + table[others & ~part]);
                }
            }
            return fewest;
        }

        private int firstOfFewest(int set) {
            int first = Integer.lowestOneBit(set);
            for (int part = first; part <= set; part++) {
                boolean isChoice = (part & first) != 0 && (part & ~set) == 0 && table[part] == 1;
                if (isChoice && 1 + table[set & ~part] == table[set]) {
                    return part;
                }
            }
            return set;
        }
    }
}
