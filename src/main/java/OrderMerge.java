import java.util.Arrays;

/**
 * A front end for a hierarchy of classes: a house told as a text, the orders of its classes, and
 * what can be asked of them. The document's numbered promises tell each call.
 */
public final class OrderMerge {
    public static final int NONE = -1;

    private static final int MOST_CLASSES = 10;
    private static final int MOST_PARENTS = 4;
    private static final int METHODS = 8;
    private static final int MOODS = 10;
    private static final int TAPE_BYTES = 900;
    private static final int FED_BYTES = 20;
    private static final int TRAYS = 4;
    private static final int TRAY_PLACES = 40;
    private static final int SORTS = 4;
    private static final int IMAGES = 2;
    private static final int MOST_UNDONE = 10;
    private static final int MOST_TOLD = 8;
    private static final int MOST_REPAIRS = 3;
    private static final int LOTS = 10;
    private static final int MOST_LOTS = 3;
    private static final int DAY_TIMES = 40;
    private static final int OLD_KINDS = 3;
    private static final int MOST_SAID = 1000000;

    /** A class that is not in the house stands in this row of its orders: what would be. */
    private static final int WOULD_BE = MOST_CLASSES;

    private static final int ORDERED = 0;
    private static final int REFUSED = 1;
    private static final int LOST = 2;

    private static final int UNDEFINED = 0;
    private static final int ENDING = 1;
    private static final int GOING_ON = 2;

    private static final int CAN_BE = 0;
    private static final int NO_SUCH = 1;
    private static final int NOT_SO = 2;

    private static final int NONE_SUCH = -2;
    private static final int BAD_NUMBER = -3;
    private static final int TOO_MANY = -4;
    private static final int NOT_NOW = -5;
    private static final int MISSING = -6;
    private static final int NO_NUMBER = -7;
    private static final int WHY_NOT = -10;
    private static final int TEXT_FAULT = -30;
    /** What a call says may be any small number, so its codes stand far below. */
    private static final int CALL_CODES = -99000000;

    private final byte[] tape = new byte[TAPE_BYTES];
    private int tapeSize;
    private int lastFault;
    private int lastFaultPlace = NONE;
    private final Reader reader = new Reader();

    private final House current = new House();
    private final Orders orders = new Orders();
    private final Past past = new Past();
    /** Deeds are done here first, so that a call that can't be changes nothing. */
    private final Facts trial = new Facts();
    private final Orders trialOrders = new Orders();

    private final Demands binding = new Demands(current.facts, orders);
    private final OldOrders olds = new OldOrders();
    private final Voice voice = new Voice(current, orders);
    private final Mender mender = new Mender();
    private final Lots lots = new Lots();
    private final int[] told = new int[MOST_PARENTS];
    private final int[] turned = new int[MOST_PARENTS];

    private final Tray[] trays = new Tray[TRAYS];
    private final House[] images = new House[IMAGES];

    public OrderMerge() {
        for (int i = 0; i < TRAYS; i++) {
            trays[i] = new Tray();
        }
    }

    // ---- the house

    public int feed(int a, int b, int c, int d, int e) {
        if (tapeSize + FED_BYTES > TAPE_BYTES) {
            return NOT_NOW;
        }
        putBytes(a);
        putBytes(b);
        putBytes(c);
        putBytes(d);
        putBytes(e);
        return tapeSize;
    }

    private void putBytes(int word) {
        for (int shift = 24; shift >= 0 && tapeSize < TAPE_BYTES; shift -= 8) {
            tape[tapeSize] = (byte) (word >> shift);
            tapeSize++;
        }
    }

    public int house(int n) {
        if (n < 0 || n > tapeSize) {
            return BAD_NUMBER;
        }
        tapeSize = 0;
        boolean good = reader.read(tape, n);
        lastFault = reader.fault;
        lastFaultPlace = reader.faultPlace;
        if (!good) {
            return TEXT_FAULT - lastFault;
        }
        reader.moveInto(current);
        past.forget();
        settleAgain();
        return current.lines;
    }

    public int fault(int what) {
        if (what == 0) {
            return lastFault;
        }
        return what == 1 ? lastFaultPlace : NONE;
    }

    public int parent(int c, int place) {
        if (!current.facts.hasClass(c)) {
            return NONE_SUCH;
        }
        return place < 0 ? BAD_NUMBER : current.facts.parentAt(c, place);
    }

    public int defines(int c, int m) {
        if (!current.facts.hasClass(c) || !isMethod(m)) {
            return NONE_SUCH;
        }
        return current.facts.definitionAt(c, m);
    }

    public int state(int c) {
        return current.facts.hasClass(c) ? orders.stateOf(c) : NONE_SUCH;
    }

    public int order(int c, int place) {
        if (!current.facts.hasClass(c)) {
            return NONE_SUCH;
        }
        return place < 0 ? BAD_NUMBER : orders.at(c, place);
    }

    public int place(int c, int d) {
        if (!current.facts.hasClass(c) || !current.facts.hasClass(d)) {
            return NONE_SUCH;
        }
        return orders.placeOf(c, d);
    }

    public int above(int c) {
        return current.facts.hasClass(c) ? current.facts.ancestors(c) : NONE_SUCH;
    }

    public int below(int c) {
        if (!current.facts.hasClass(c)) {
            return NONE_SUCH;
        }
        int bits = 0;
        for (int k = c; k < current.facts.classes; k++) {
            if ((current.facts.ancestors(k) >> c & 1) != 0) {
                bits |= 1 << k;
            }
        }
        return bits;
    }

    private static boolean isMethod(int m) {
        return m >= 0 && m < METHODS;
    }

    /** All that is worked out from the facts must follow each change of them. */
    private void settleAgain() {
        orders.settleAll(current.facts);
        mender.known = false;
        lots.known = NONE;
    }

    // ---- deeds

    public int give(int c, int p) {
        trial.copyFrom(current.facts);
        return keptState(trial.addParent(c, p), c);
    }

    public int take(int c, int p) {
        trial.copyFrom(current.facts);
        return keptState(trial.removeParent(c, p), c);
    }

    public int swap(int c, int place) {
        trial.copyFrom(current.facts);
        return keptState(trial.turnParents(c, place), c);
    }

    private int keptState(int why, int c) {
        if (why != CAN_BE) {
            return WHY_NOT - why;
        }
        keepTrial();
        return orders.stateOf(c);
    }

    public int define(int c, int m, int way) {
        trial.copyFrom(current.facts);
        int why = trial.putDefinition(c, m, way);
        if (why != CAN_BE) {
            return WHY_NOT - why;
        }
        int before = current.facts.definitionAt(c, m);
        keepTrial();
        return before;
    }

    public int mood(int n) {
        trial.copyFrom(current.facts);
        int why = trial.putMood(n);
        if (why != CAN_BE) {
            return WHY_NOT - why;
        }
        int before = current.facts.mood;
        keepTrial();
        return before;
    }

    public int undo(int n) {
        if (n < 1 || n > past.size) {
            return BAD_NUMBER;
        }
        past.goBack(n, current.facts);
        settleAgain();
        return past.size;
    }

    public int judge(int tray, int what) {
        if (!isTray(tray) || what < 0 || what > 3) {
            return NONE_SUCH;
        }
        if (trays[tray].isMissing()) {
            return MISSING;
        }
        Tray deeds = trays[tray];
        int done = tryDeeds(deeds);
        boolean all = done >= deeds.size;
        switch (what) {
            case 0:
                return all ? NONE : done;
            case 1:
                // It can't be still: to try it once more tells why and changes nothing.
                return all ? CAN_BE : trial.doDeed(deeds.at(done));
            case 2:
                trialOrders.settleAll(trial);
                return trialOrders.bitsOf(ORDERED, trial.classes);
            default:
                return trial.links();
        }
    }

    public int perform(int tray) {
        int code = trayCode(tray);
        if (code != 0) {
            return code;
        }
        int done = tryDeeds(trays[tray]);
        if (done > 0) {
            keepTrial();
        }
        return done;
    }

    public int day(int seed, int times) {
        if (times < 1 || times > DAY_TIMES) {
            return BAD_NUMBER;
        }
        trial.copyFrom(current.facts);
        int x = seed;
        int done = 0;
        for (int i = 0; i < times; i++) {
            x = nextDraw(x);
            int kind = (x >>> 16) % 6;
            x = nextDraw(x);
            if (trial.doDeed(drawnDeed(kind, x >>> 16)) == CAN_BE) {
                done++;
            }
        }
        if (done > 0) {
            keepTrial();
        }
        return done;
    }

    private static int nextDraw(int x) {
        return 1103515245 * x + 12345;
    }

    private static int drawnDeed(int kind, int draw) {
        switch (kind) {
            case 0:
                return 10 + draw % 10;
            case 1:
            case 2:
                return 100 + draw % 100;
            case 3:
                return 200 + draw % 100;
            case 4:
                return 300 + draw % 100;
            default:
                return 1000 + draw % 300;
        }
    }

    /** Does the deeds of a tray in the trial, till one can't be; answers how many. */
    private int tryDeeds(Tray deeds) {
        trial.copyFrom(current.facts);
        int done = 0;
        while (done < deeds.size && trial.doDeed(deeds.at(done)) == CAN_BE) {
            done++;
        }
        return done;
    }

    private void keepTrial() {
        past.push(current.facts);
        current.facts.copyFrom(trial);
        settleAgain();
    }

    // ---- demands

    public int demands(int c) {
        int code = demandsCode(c);
        if (code != 0) {
            return code;
        }
        binding.gather(c);
        return binding.size();
    }

    public int demand(int c, int i) {
        int code = demandsCode(c);
        if (code != NONE_SUCH && i < 0) {
            return BAD_NUMBER;
        }
        if (code != 0) {
            return code;
        }
        binding.gather(c);
        return binding.at(i);
    }

    public int ring(int c, int i) {
        int code = demandsCode(c);
        if (code != NONE_SUCH && i < 0) {
            return BAD_NUMBER;
        }
        if (code != 0) {
            return code;
        }
        binding.gather(c);
        binding.findRing();
        return binding.ringAt(i);
    }

    public int ways(int c) {
        int code = demandsCode(c);
        if (code != 0) {
            return code;
        }
        binding.gather(c);
        return binding.rowsThatMeetAll();
    }

    public int rank(int c) {
        if (!current.facts.hasClass(c)) {
            return NONE_SUCH;
        }
        if (!orders.hasOrder(c)) {
            return NONE;
        }
        binding.gather(c);
        return binding.rowsAheadOfOrder(c);
    }

    private int demandsCode(int c) {
        if (!current.facts.hasClass(c)) {
            return NONE_SUCH;
        }
        return orders.stateOf(c) == LOST ? NONE : 0;
    }

    // ---- old orders

    public int old(int c, int kind, int place) {
        if (!current.facts.hasClass(c) || !isOldKind(kind)) {
            return NONE_SUCH;
        }
        if (place < 0) {
            return BAD_NUMBER;
        }
        olds.build(current.facts, kind);
        return olds.at(c, place);
    }

    public int breaks(int c, int kind) {
        if (!current.facts.hasClass(c) || !isOldKind(kind)) {
            return NONE_SUCH;
        }
        if (orders.stateOf(c) == LOST) {
            return NONE;
        }
        olds.build(current.facts, kind);
        binding.gather(c);
        int broken = 0;
        for (int i = 0; i < olds.sizeOf(c); i++) {
            for (int j = i + 1; j < olds.sizeOf(c); j++) {
                if (binding.isDemanded(olds.at(c, j), olds.at(c, i))) {
                    broken++;
                }
            }
        }
        return broken;
    }

    public int same(int kind) {
        if (!isOldKind(kind)) {
            return NONE_SUCH;
        }
        olds.build(current.facts, kind);
        int bits = 0;
        for (int c = 0; c < current.facts.classes; c++) {
            if (orders.hasOrder(c) && isOldOrder(c)) {
                bits |= 1 << c;
            }
        }
        return bits;
    }

    private boolean isOldOrder(int c) {
        int size = olds.sizeOf(c);
        if (size != orders.sizeOf(c)) {
            return false;
        }
        for (int i = 0; i < size; i++) {
            if (olds.at(c, i) != orders.at(c, i)) {
                return false;
            }
        }
        return true;
    }

    private static boolean isOldKind(int kind) {
        return kind >= 1 && kind <= OLD_KINDS;
    }

    // ---- calls

    public int call(int c, int m) {
        if (!current.facts.hasClass(c) || !isMethod(m)) {
            return CALL_CODES + NONE_SUCH;
        }
        if (!orders.hasOrder(c)) {
            return CALL_CODES + NOT_NOW;
        }
        return voice.answer(c, m, current.facts.mood);
    }

    public int through(int c, int m, int i) {
        if (!current.facts.hasClass(c) || !isMethod(m)) {
            return NONE_SUCH;
        }
        if (i < 0) {
            return BAD_NUMBER;
        }
        if (!orders.hasOrder(c)) {
            return NOT_NOW;
        }
        voice.trace(c, m, current.facts.mood);
        return voice.passed(i);
    }

    public int serves(int c, int m) {
        if (!current.facts.hasClass(c) || !isMethod(m)) {
            return NONE_SUCH;
        }
        int bits = 0;
        for (int k = 0; k < current.facts.classes; k++) {
            voice.trace(k, m, current.facts.mood);
            if (voice.passed(0) == c) {
                bits |= 1 << k;
            }
        }
        return bits;
    }

    public int dead() {
        voice.markReached();
        int found = 0;
        for (int definition = 0; definition < MOST_CLASSES * 10; definition++) {
            if (voice.isDead(definition / 10, definition % 10)) {
                found++;
            }
        }
        return found;
    }

    public int firstDead() {
        voice.markReached();
        for (int definition = 0; definition < MOST_CLASSES * 10; definition++) {
            if (voice.isDead(definition / 10, definition % 10)) {
                return definition;
            }
        }
        return NONE;
    }

    // ---- others

    public int common(int a, int b) {
        if (!current.facts.hasClass(a) || !current.facts.hasClass(b)) {
            return NONE_SUCH;
        }
        if (!orders.hasOrder(a) || !orders.hasOrder(b)) {
            return NOT_NOW;
        }
        for (int i = 0; i < orders.sizeOf(a); i++) {
            int one = orders.at(a, i);
            if (orders.placeOf(b, one) != NONE) {
                return one;
            }
        }
        return NONE;
    }

    public int would(int tray) {
        int code = wouldCode(tray);
        return code != 0 ? code : orders.settle(WOULD_BE, told, trays[tray].size);
    }

    public int wouldOrder(int tray, int place) {
        int code = wouldCode(tray);
        if (code != 0) {
            return code;
        }
        if (place < 1) {
            return BAD_NUMBER;
        }
        orders.settle(WOULD_BE, told, trays[tray].size);
        return orders.at(WOULD_BE, place);
    }

    public int wouldWays(int tray) {
        int code = wouldCode(tray);
        if (code != 0) {
            return code;
        }
        int n = trays[tray].size;
        int found = 0;
        for (int turn = 0; turn < 1 << 2 * n; turn++) {
            if (turnTold(turn, n) && orders.settle(WOULD_BE, turned, n) == ORDERED) {
                found++;
            }
        }
        return found;
    }

    /** Lays the told parents in the order that a number's digits (of two bits each) tell. */
    private boolean turnTold(int turn, int n) {
        int used = 0;
        for (int i = 0; i < n && i < MOST_PARENTS; i++) {
            int from = turn >> 2 * i & 3;
            if (from >= n || (used >> from & 1) != 0) {
                return false;
            }
            used |= 1 << from;
            turned[i] = told[from];
        }
        return true;
    }

    private int wouldCode(int tray) {
        int code = trayCode(tray);
        if (code != 0) {
            return code;
        }
        Tray from = trays[tray];
        if (from.size > MOST_PARENTS) {
            return TOO_MANY;
        }
        int seen = 0;
        for (int i = 0; i < from.size && i < MOST_PARENTS; i++) {
            long v = from.at(i);
            if (v < 0 || v >= current.facts.classes || (seen >> (int) v & 1) != 0) {
                return BAD_NUMBER;
            }
            seen |= 1 << (int) v;
            told[i] = (int) v;
        }
        return 0;
    }

    public int repairs() {
        mender.learn(current.facts);
        return mender.fewest;
    }

    public int repair(int i) {
        if (i < 0) {
            return BAD_NUMBER;
        }
        mender.learn(current.facts);
        return mender.linkAt(i);
    }

    // ---- told

    public int moods(int tray) {
        int code = toldCode(tray);
        return code != 0 ? code : moodsOf(trays[tray]);
    }

    public int attempt(int tray) {
        int code = toldCode(tray);
        if (code != 0) {
            return code;
        }
        int bits = moodsOf(trays[tray]);
        if (bits == 0) {
            return NONE;
        }
        int best = NONE;
        int least = MOODS + 1;
        for (int c = 0; c < current.facts.classes; c++) {
            for (int m = 0; m < METHODS && orders.hasOrder(c); m++) {
                int alike = voice.mostAlike(c, m, bits);
                if (alike < least) {
                    least = alike;
                    best = 10 * c + m;
                }
            }
        }
        return best;
    }

    private int toldCode(int tray) {
        int code = trayCode(tray);
        if (code != 0) {
            return code;
        }
        Tray from = trays[tray];
        if (from.size < 1 || from.size > MOST_TOLD) {
            return TOO_MANY;
        }
        for (int i = 0; i < from.size; i++) {
            if (!canBeTold(from.at(i))) {
                return BAD_NUMBER;
            }
        }
        return 0;
    }

    private boolean canBeTold(long v) {
        long c = v / 10000000;
        if (v < 0 || c >= current.facts.classes) {
            return false;
        }
        return orders.hasOrder((int) c) && v / 100000 % 100 < METHODS;
    }

    private int moodsOf(Tray from) {
        int bits = 0;
        for (int mood = 0; mood < MOODS; mood++) {
            boolean so = true;
            for (int i = 0; i < from.size && so; i++) {
                long v = from.at(i);
                int said = voice.answer((int) (v / 10000000), (int) (v / 100000 % 100), mood);
                so = said == v % 100000 - 50000;
            }
            if (so) {
                bits |= 1 << mood;
            }
        }
        return bits;
    }

    // ---- chances

    public int chance(int n, int what) {
        int code = lotsCode(n, what);
        if (code != 0) {
            return code;
        }
        lots.learn(current.facts, n);
        return inLowestTerms(lots.allOrdered, lots.draws, what);
    }

    public int mean(int n, int what) {
        int code = lotsCode(n, what);
        if (code != 0) {
            return code;
        }
        lots.learn(current.facts, n);
        return inLowestTerms(lots.ordered, lots.draws, what);
    }

    private static int lotsCode(int n, int what) {
        if (what < 0 || what > 1) {
            return NONE_SUCH;
        }
        return n < 0 || n > MOST_LOTS ? BAD_NUMBER : 0;
    }

    private static int inLowestTerms(int over, int under, int what) {
        int a = under;
        int b = over;
        for (int i = 0; i < 64 && b != 0; i++) {
            int rest = a % b;
            a = b;
            b = rest;
        }
        int number = what == 0 ? over : under;
        return a == 0 ? number : number / a;
    }

    // ---- trays, images

    public int numbers(int tray, int sort, int n) {
        if (!isTray(tray) || sort < 0 || sort >= SORTS) {
            return NONE_SUCH;
        }
        if (n < 0 || n > TRAY_PLACES) {
            return BAD_NUMBER;
        }
        trays[tray].begin(sort, n);
        return 0;
    }

    public long write(int tray, int i, long v) {
        int code = trayCode(tray);
        if (code != 0) {
            return code;
        }
        if (i < 0 || i >= trays[tray].size) {
            return NO_NUMBER;
        }
        trays[tray].put(i, v);
        return trays[tray].at(i);
    }

    public int lists(int tray, int c) {
        if (!isTray(tray) || !current.facts.hasClass(c)) {
            return NONE_SUCH;
        }
        if (trays[tray].isMissing()) {
            return MISSING;
        }
        if (!orders.hasOrder(c)) {
            return NOT_NOW;
        }
        int n = Math.min(trays[tray].size, orders.sizeOf(c));
        for (int i = 0; i < n; i++) {
            trays[tray].put(i, orders.at(c, i));
        }
        return n;
    }

    public int image(int i) {
        if (i < 0 || i >= IMAGES) {
            return NONE_SUCH;
        }
        if (images[i] == null) {
            images[i] = new House();
        }
        images[i].copyFrom(current);
        return 0;
    }

    public int restore(int i) {
        if (i < 0 || i >= IMAGES) {
            return NONE_SUCH;
        }
        if (images[i] == null) {
            return NOT_NOW;
        }
        current.copyFrom(images[i]);
        past.forget();
        settleAgain();
        return 0;
    }

    public int count(int what) {
        Facts facts = current.facts;
        switch (what) {
            case 0:
                return facts.classes;
            case 1:
                return facts.links();
            case 2:
                return facts.definitionCount();
            case 3:
                return facts.mood;
            case 4:
                return orders.bitsOf(ORDERED, facts.classes);
            case 5:
                return orders.bitsOf(REFUSED, facts.classes);
            case 6:
                return past.size;
            case 7:
                return tapeSize;
            case 8:
                return current.lines;
            default:
                return NONE;
        }
    }

    private static boolean isTray(int tray) {
        return tray >= 0 && tray < TRAYS;
    }

    private int trayCode(int tray) {
        if (!isTray(tray)) {
            return NONE_SUCH;
        }
        return trays[tray].isMissing() ? MISSING : 0;
    }

    /** A tray of numbers of one sort, or none. */
    private static final class Tray {
        private int sort = NONE;
        private int size;
        private final long[] cells = new long[TRAY_PLACES];

        boolean isMissing() {
            return sort == NONE;
        }

        void begin(int newSort, int n) {
            sort = newSort;
            size = n;
            Arrays.fill(cells, 0L);
        }

        long at(int i) {
            return i >= 0 && i < TRAY_PLACES ? cells[i] : 0L;
        }

        void put(int i, long v) {
            if (i >= 0 && i < TRAY_PLACES) {
                cells[i] = cut(v);
            }
        }

        private long cut(long v) {
            switch (sort) {
                case 0:
                    return (byte) v;
                case 1:
                    return (short) v;
                case 2:
                    return (int) v;
                default:
                    return v;
            }
        }
    }

    /** How many classes there are, and what deeds change: parents, definitions, the mood. */
    private static final class Facts {
        private int classes;
        private int mood;
        private final int[] parentCounts = new int[MOST_CLASSES];
        private final int[] parents = new int[MOST_CLASSES * MOST_PARENTS];
        private final int[] definitions = new int[MOST_CLASSES * METHODS];

        void clear() {
            classes = 0;
            mood = 0;
            Arrays.fill(parentCounts, 0);
            Arrays.fill(parents, 0);
            Arrays.fill(definitions, UNDEFINED);
        }

        void copyFrom(Facts other) {
            classes = other.classes;
            mood = other.mood;
            System.arraycopy(other.parentCounts, 0, parentCounts, 0, parentCounts.length);
            System.arraycopy(other.parents, 0, parents, 0, parents.length);
            System.arraycopy(other.definitions, 0, definitions, 0, definitions.length);
        }

        boolean hasClass(int c) {
            return c >= 0 && c < classes && c < MOST_CLASSES;
        }

        /** The class told next has its parents told before it is a class. */
        int parentCount(int c) {
            return c >= 0 && c < MOST_CLASSES ? parentCounts[c] : 0;
        }

        int parentAt(int c, int place) {
            return place >= 0 && place < parentCount(c) && place < MOST_PARENTS
                ? parents[c * MOST_PARENTS + place] : NONE;
        }

        int parentPlace(int c, int p) {
            for (int i = 0; i < parentCount(c); i++) {
                if (parentAt(c, i) == p) {
                    return i;
                }
            }
            return NONE;
        }

        /** Lists the parents of a class but those in some places (bits); answers how many. */
        int listParents(int c, int without, int[] into) {
            int n = 0;
            for (int i = 0; i < parentCount(c) && n < into.length; i++) {
                if ((without >> i & 1) == 0) {
                    into[n] = parentAt(c, i);
                    n++;
                }
            }
            return n;
        }

        int definitionAt(int c, int m) {
            return c >= 0 && c < MOST_CLASSES && isMethod(m) ? definitions[c * METHODS + m] : UNDEFINED;
        }

        int links() {
            int found = 0;
            for (int c = 0; c < classes; c++) {
                found += parentCount(c);
            }
            return found;
        }

        int definitionCount() {
            int found = 0;
            for (int way : definitions) {
                if (way != UNDEFINED) {
                    found++;
                }
            }
            return found;
        }

        /** A parent's number is less than its class's, so one way down finds all. */
        int ancestors(int c) {
            if (!hasClass(c)) {
                return 0;
            }
            int bits = 1 << c;
            for (int k = c; k > 0; k--) {
                for (int i = 0; i < parentCount(k) && (bits >> k & 1) != 0; i++) {
                    bits |= 1 << parentAt(k, i);
                }
            }
            return bits;
        }

        void appendParent(int c, int p) {
            int n = parentCount(c);
            if (c >= 0 && c < MOST_CLASSES && n < MOST_PARENTS) {
                parents[c * MOST_PARENTS + n] = p;
                parentCounts[c] = n + 1;
            }
        }

        int addParent(int c, int p) {
            if (!hasClass(c) || p < 0 || p >= c) {
                return NO_SUCH;
            }
            if (parentPlace(c, p) != NONE || parentCount(c) >= MOST_PARENTS) {
                return NOT_SO;
            }
            appendParent(c, p);
            return CAN_BE;
        }

        int removeParent(int c, int p) {
            if (!hasClass(c) || !hasClass(p)) {
                return NO_SUCH;
            }
            int from = parentPlace(c, p);
            if (from == NONE) {
                return NOT_SO;
            }
            int last = parentCount(c) - 1;
            for (int i = from; i < last && i + 1 < MOST_PARENTS; i++) {
                parents[c * MOST_PARENTS + i] = parents[c * MOST_PARENTS + i + 1];
            }
            parentCounts[c] = last;
            return CAN_BE;
        }

        int turnParents(int c, int first) {
            if (!hasClass(c)) {
                return NO_SUCH;
            }
            if (first < 0 || first >= MOST_PARENTS - 1 || first + 1 >= parentCount(c)) {
                return NOT_SO;
            }
            int at = c * MOST_PARENTS + first;
            int one = parents[at];
            parents[at] = parents[at + 1];
            parents[at + 1] = one;
            return CAN_BE;
        }

        /** The ways of a deed: 0 ending, 1 going on, 2 not at all. */
        int putDefinition(int c, int m, int way) {
            if (!hasClass(c) || !isMethod(m) || way < 0 || way > 2) {
                return NO_SUCH;
            }
            int at = c * METHODS + m;
            if (way == 2 && definitions[at] == UNDEFINED) {
                return NOT_SO;
            }
            definitions[at] = way == 0 ? ENDING : way == 1 ? GOING_ON : UNDEFINED;
            return CAN_BE;
        }

        int putMood(int n) {
            if (n < 0 || n >= MOODS) {
                return NO_SUCH;
            }
            mood = n;
            return CAN_BE;
        }

        int doDeed(long v) {
            if (v < 10 || v > 1299) {
                return NO_SUCH;
            }
            int deed = (int) v;
            int pair = deed % 100;
            switch (deed / 100) {
                case 0:
                    return putMood(deed - 10);
                case 1:
                    return addParent(pair / 10, pair % 10);
                case 2:
                    return removeParent(pair / 10, pair % 10);
                case 3:
                    return turnParents(pair / 10, pair % 10);
                case 10:
                case 11:
                case 12:
                    return putDefinition(pair % 10, pair / 10, deed / 100 - 10);
                default:
                    return NO_SUCH;
            }
        }
    }

    /** The house as it is: its facts, its laws (null: none told) and how many lines told it. */
    private static final class House {
        private final Facts facts = new Facts();
        /** A law's code is never changed once it stands here, so images share it. */
        private int[] says;
        private int[] seen;
        private int lines;

        void copyFrom(House other) {
            facts.copyFrom(other.facts);
            says = other.says;
            seen = other.seen;
            lines = other.lines;
        }
    }

    /** The facts ahead of the latest calls that did some deeds, the eldest overwritten first. */
    private static final class Past {
        private final Facts[] rows = new Facts[MOST_UNDONE];
        private int eldest;
        private int size;

        void forget() {
            size = 0;
        }

        void push(Facts facts) {
            int at = (eldest + size) % MOST_UNDONE;
            if (size < MOST_UNDONE) {
                size++;
            } else {
                eldest = (eldest + 1) % MOST_UNDONE;
            }
            if (rows[at] == null) {
                rows[at] = new Facts();
            }
            rows[at].copyFrom(facts);
        }

        void goBack(int n, Facts into) {
            if (n < 1 || n > size) {
                return;
            }
            size -= n;
            Facts row = rows[(eldest + size) % MOST_UNDONE];
            if (row != null) {
                into.copyFrom(row);
            }
        }
    }

    /** The state of each class and its order; a row more for a class that would be. */
    private static final class Orders {
        private static final int ROW = MOST_CLASSES + 1;
        private static final int MERGED_ROWS = MOST_PARENTS + 1;

        private final int[] states = new int[ROW];
        private final int[] sizes = new int[ROW];
        private final int[] rows = new int[ROW * ROW];
        private final int[] kin = new int[MOST_PARENTS];
        /** The rows that are merged; of each its size, how many are taken, its first one then. */
        private final int[] merged = new int[MERGED_ROWS * ROW];
        private final int[] mergedSizes = new int[MERGED_ROWS];
        private final int[] taken = new int[MERGED_ROWS];
        private final int[] firsts = new int[MERGED_ROWS];
        /** Of each, as bits, what stands behind its first one. */
        private final int[] tails = new int[MERGED_ROWS];

        int stateOf(int c) {
            return c >= 0 && c < ROW ? states[c] : LOST;
        }

        boolean hasOrder(int c) {
            return c >= 0 && c < ROW && sizes[c] > 0;
        }

        int sizeOf(int c) {
            return c >= 0 && c < ROW ? sizes[c] : 0;
        }

        int at(int c, int i) {
            return c >= 0 && c < ROW && i >= 0 && i < sizes[c] && i < ROW ? rows[c * ROW + i] : NONE;
        }

        int placeOf(int c, int d) {
            for (int i = 0; i < sizeOf(c); i++) {
                if (at(c, i) == d) {
                    return i;
                }
            }
            return NONE;
        }

        int bitsOf(int state, int classes) {
            int bits = 0;
            for (int c = 0; c < classes && c < MOST_CLASSES; c++) {
                if (states[c] == state) {
                    bits |= 1 << c;
                }
            }
            return bits;
        }

        void settleAll(Facts facts) {
            Arrays.fill(sizes, 0);
            for (int c = 0; c < facts.classes; c++) {
                settle(c, kin, facts.listParents(c, 0, kin));
            }
        }

        /** Settles a class as if the parents in some places (bits) were not there. */
        int settleWithout(Facts facts, int c, int places) {
            return settle(c, kin, facts.listParents(c, places, kin));
        }

        int settleSwapped(Facts facts, int c) {
            int n = facts.listParents(c, 0, kin);
            if (n > 1) {
                int one = kin[0];
                kin[0] = kin[1];
                kin[1] = one;
            }
            return settle(c, kin, n);
        }

        /** Its parents' orders must be settled ahead of it. */
        int settle(int c, int[] parents, int n) {
            if (c < 0 || c >= ROW || n < 0 || n > parents.length || n > MOST_PARENTS) {
                return LOST;
            }
            sizes[c] = 0;
            states[c] = LOST;
            for (int i = 0; i < n; i++) {
                if (!hasOrder(parents[i])) {
                    return LOST;
                }
            }
            layRows(parents, n);
            rows[c * ROW] = c;
            int size = 1;
            int next = firstFree(n);
            while (next != NONE && size < ROW) {
                rows[c * ROW + size] = next;
                size++;
                takeFromAll(next, n);
                next = firstFree(n);
            }
            states[c] = isAllTaken(n) ? ORDERED : REFUSED;
            sizes[c] = states[c] == ORDERED ? size : 0;
            return states[c];
        }

        /** What is merged: each parent's order, then the row of the parents. */
        private void layRows(int[] parents, int n) {
            for (int r = 0; r <= n && r < MERGED_ROWS; r++) {
                int size = r < n ? sizeOf(parents[r]) : n;
                mergedSizes[r] = Math.min(size, ROW);
                taken[r] = 0;
                tails[r] = 0;
                for (int i = 0; i < mergedSizes[r]; i++) {
                    int one = r < n ? at(parents[r], i) : parents[i];
                    merged[r * ROW + i] = one;
                    tails[r] |= i > 0 ? 1 << one : 0;
                }
                firsts[r] = mergedSizes[r] > 0 ? merged[r * ROW] : NONE;
            }
        }

        private int firstFree(int n) {
            int behind = 0;
            for (int r = 0; r <= n && r < MERGED_ROWS; r++) {
                behind |= tails[r];
            }
            for (int r = 0; r <= n && r < MERGED_ROWS; r++) {
                if (firsts[r] != NONE && (behind >> firsts[r] & 1) == 0) {
                    return firsts[r];
                }
            }
            return NONE;
        }

        private void takeFromAll(int one, int n) {
            for (int r = 0; r <= n && r < MERGED_ROWS; r++) {
                if (firsts[r] == one) {
                    taken[r]++;
                    boolean more = taken[r] < mergedSizes[r] && taken[r] < ROW;
                    firsts[r] = more ? merged[r * ROW + taken[r]] : NONE;
                    tails[r] &= more ? ~(1 << firsts[r]) : 0;
                }
            }
        }

        private boolean isAllTaken(int n) {
            for (int r = 0; r <= n && r < MERGED_ROWS; r++) {
                if (firsts[r] != NONE) {
                    return false;
                }
            }
            return true;
        }
    }

    /** The demands on one class that isn't lost, and the rows that meet them. */
    private static final class Demands {
        private static final int FAR = 100;

        private final Facts facts;
        private final Orders orders;
        private int members;
        /** Of each class, as bits: those demanded behind it, those demanded ahead of it. */
        private final int[] behind = new int[MOST_CLASSES];
        private final int[] ahead = new int[MOST_CLASSES];
        private final int[] distances = new int[MOST_CLASSES * MOST_CLASSES];
        private final int[] ringRow = new int[MOST_CLASSES];
        private int ringSize;
        /** Of each set of classes that stand already: in how many ways the others can follow. */
        private final int[] endings = new int[1 << MOST_CLASSES];

        Demands(Facts facts, Orders orders) {
            this.facts = facts;
            this.orders = orders;
        }

        void gather(int c) {
            Arrays.fill(behind, 0);
            Arrays.fill(ahead, 0);
            members = facts.ancestors(c);
            int n = facts.parentCount(c);
            for (int i = 0; i < n; i++) {
                int p = facts.parentAt(c, i);
                add(c, p);
                for (int j = i + 1; j < n; j++) {
                    add(p, facts.parentAt(c, j));
                }
                addOrderOf(p);
            }
        }

        private void addOrderOf(int p) {
            for (int i = 0; i < orders.sizeOf(p); i++) {
                for (int j = i + 1; j < orders.sizeOf(p); j++) {
                    add(orders.at(p, i), orders.at(p, j));
                }
            }
        }

        private void add(int first, int second) {
            if (isMember(first) && isMember(second)) {
                behind[first] |= 1 << second;
                ahead[second] |= 1 << first;
            }
        }

        private static boolean isMember(int c) {
            return c >= 0 && c < MOST_CLASSES;
        }

        boolean isDemanded(int first, int second) {
            return isMember(first) && isMember(second) && (behind[first] >> second & 1) != 0;
        }

        int size() {
            int found = 0;
            for (int bits : behind) {
                found += Integer.bitCount(bits);
            }
            return found;
        }

        int at(int i) {
            int left = i;
            for (int pair = 0; pair < MOST_CLASSES * 10; pair++) {
                if (isDemanded(pair / 10, pair % 10)) {
                    if (left == 0) {
                        return pair;
                    }
                    left--;
                }
            }
            return NONE;
        }

        int ringAt(int i) {
            return i >= 0 && i < ringSize && i < ringRow.length ? ringRow[i] : NONE;
        }

        /**
         * A ring of the fewest classes through its least one is a shortest way back to it, so at
         * each step the least class that is still near enough leads to the first such ring.
         */
        void findRing() {
            measure();
            ringSize = 0;
            int start = startOfRing();
            if (start == NONE) {
                return;
            }
            int length = distance(start, start);
            int one = start;
            for (int left = length - 1; left >= 0 && one != NONE && ringSize < ringRow.length; left--) {
                ringRow[ringSize] = one;
                ringSize++;
                one = nextOfRing(one, start, left);
            }
        }

        private int startOfRing() {
            int start = NONE;
            int least = FAR;
            for (int c = 0; c < MOST_CLASSES; c++) {
                if (distance(c, c) < least) {
                    least = distance(c, c);
                    start = c;
                }
            }
            return start;
        }

        private int nextOfRing(int one, int start, int left) {
            for (int c = 0; c < MOST_CLASSES; c++) {
                if (isDemanded(one, c) && distance(c, start) == left) {
                    return c;
                }
            }
            return NONE;
        }

        private int distance(int from, int to) {
            return isMember(from) && isMember(to) ? distances[from * MOST_CLASSES + to] : FAR;
        }

        private void measure() {
            for (int a = 0; a < MOST_CLASSES; a++) {
                for (int b = 0; b < MOST_CLASSES; b++) {
                    distances[a * MOST_CLASSES + b] = isDemanded(a, b) ? 1 : FAR;
                }
            }
            for (int by = 0; by < MOST_CLASSES; by++) {
                for (int a = 0; a < MOST_CLASSES; a++) {
                    for (int b = 0; b < MOST_CLASSES; b++) {
                        int round = distance(a, by) + distance(by, b);
                        distances[a * MOST_CLASSES + b] = Math.min(distance(a, b), round);
                    }
                }
            }
        }

        int rowsThatMeetAll() {
            if (members < 0 || members >= endings.length) {
                return 0;
            }
            endings[members] = 1;
            for (int set = members - 1; set >= 0; set--) {
                if ((set & ~members) == 0) {
                    endings[set] = endingsBehind(set, MOST_CLASSES);
                }
            }
            return endings[0];
        }

        /** In how many ways the rest can follow a set, the next one being below a bound. */
        private int endingsBehind(int set, int bound) {
            int found = 0;
            for (int c = 0; c < bound && c < MOST_CLASSES; c++) {
                int with = set | 1 << c;
                if (with != set && (members >> c & 1) != 0 && (ahead[c] & ~set) == 0
                    && with >= 0 && with < endings.length) {
                    found += endings[with];
                }
            }
            return found;
        }

        int rowsAheadOfOrder(int c) {
            rowsThatMeetAll();
            int found = 0;
            int set = 0;
            for (int i = 0; i < orders.sizeOf(c); i++) {
                int one = orders.at(c, i);
                found += endingsBehind(set, one);
                set |= 1 << one;
            }
            return found;
        }
    }

    /** The old orders of one kind of all classes. */
    private static final class OldOrders {
        private static final int FIRST_STAYS = 1;
        private static final int LAST_STAYS = 2;

        private final int[] sizes = new int[MOST_CLASSES];
        private final int[] rows = new int[MOST_CLASSES * MOST_CLASSES];
        private final int[] backwards = new int[MOST_CLASSES];

        int sizeOf(int c) {
            return c >= 0 && c < MOST_CLASSES ? sizes[c] : 0;
        }

        int at(int c, int i) {
            return i >= 0 && i < sizeOf(c) && i < MOST_CLASSES ? rows[c * MOST_CLASSES + i] : NONE;
        }

        void build(Facts facts, int kind) {
            Arrays.fill(sizes, 0);
            for (int c = 0; c < facts.classes; c++) {
                append(c, c);
                if (kind == FIRST_STAYS) {
                    appendByDepth(facts, c);
                } else if (kind == LAST_STAYS) {
                    appendLastOnes(facts, c);
                } else {
                    appendByBreadth(facts, c);
                }
            }
        }

        private void append(int c, int one) {
            if (c >= 0 && c < MOST_CLASSES && sizes[c] < MOST_CLASSES) {
                rows[c * MOST_CLASSES + sizes[c]] = one;
                sizes[c]++;
            }
        }

        private void appendByDepth(Facts facts, int c) {
            int have = 0;
            for (int i = 0; i < facts.parentCount(c); i++) {
                int p = facts.parentAt(c, i);
                for (int j = 0; j < sizeOf(p); j++) {
                    int one = at(p, j);
                    if ((have >> one & 1) == 0) {
                        have |= 1 << one;
                        append(c, one);
                    }
                }
            }
        }

        /** Read from the back, the last of like ones comes first. */
        private void appendLastOnes(Facts facts, int c) {
            int have = 0;
            int n = 0;
            for (int i = facts.parentCount(c) - 1; i >= 0; i--) {
                int p = facts.parentAt(c, i);
                for (int j = sizeOf(p) - 1; j >= 0; j--) {
                    int one = at(p, j);
                    if ((have >> one & 1) == 0 && n < backwards.length) {
                        have |= 1 << one;
                        backwards[n] = one;
                        n++;
                    }
                }
            }
            for (int i = n - 1; i >= 0; i--) {
                append(c, backwards[i]);
            }
        }

        private void appendByBreadth(Facts facts, int c) {
            int have = 1 << c;
            for (int i = 0; i < sizeOf(c); i++) {
                int from = at(c, i);
                for (int j = 0; j < facts.parentCount(from); j++) {
                    int one = facts.parentAt(from, j);
                    if ((have >> one & 1) == 0) {
                        have |= 1 << one;
                        append(c, one);
                    }
                }
            }
        }
    }

    /** Reads a text: what it tells, or its first fault. */
    private static final class Reader {
        /** A sign's token is its own number; words stand above all signs, numbers above these. */
        private static final int TEXT_END = 1;
        private static final int BROKEN = 2;
        private static final int OTHER_WORD = 3;
        private static final int HOUSE = 200;
        private static final int MOOD = 201;
        private static final int CLASS = 202;
        private static final int METHOD = 203;
        private static final int IN = 204;
        private static final int ENDS = 205;
        private static final int NEXT = 206;
        private static final int SAYS = 207;
        private static final int SEEN = 208;
        private static final int IF = 209;
        private static final int THEN = 210;
        private static final int ELSE = 211;
        private static final int END = 212;
        private static final int FOR = 213;
        private static final int DEPTH = 214;
        private static final int OR = 215;
        private static final int AND = 216;
        private static final int NOT = 217;
        private static final int NUMBERS = 1000;
        /** In the order of the tokens from HOUSE on. */
        private static final String WORDS =
            "house mood class method in ends next says seen if then else end for depth or and not ";
        private static final String SIGNS = ";:+-*()[]=<>";

        private static final int NO_TOKEN = 1;
        private static final int OUT_OF_PLACE = 2;
        private static final int OUT_OF_BOUNDS = 3;
        private static final int ONE_TOO_MANY = 4;
        private static final int MOST_NESTED = 6;
        private static final int MOST_DIGITS = 3;

        private byte[] text;
        private int length;
        private final int[] tokens = new int[TAPE_BYTES + 1];
        private final int[] starts = new int[TAPE_BYTES + 1];
        private int tokenCount;
        private int at;
        private int token;
        private int fault;
        private int faultPlace;

        private final Facts facts = new Facts();
        private int lines;
        private int[] says;
        private int[] seen;
        private final int[] code = new int[TAPE_BYTES];
        private int codeSize;
        private boolean readsSays;
        private int nested;

        boolean read(byte[] tape, int n) {
            text = tape;
            length = Math.max(0, Math.min(n, tape.length));
            fault = 0;
            faultPlace = NONE;
            facts.clear();
            lines = 0;
            says = null;
            seen = null;
            splitText();
            at = NONE;
            step();
            boolean good = readHouse() && endLine();
            for (int i = 0; i < TAPE_BYTES && good && token != TEXT_END; i++) {
                good = readLine() && endLine();
            }
            return good;
        }

        void moveInto(House house) {
            house.facts.copyFrom(facts);
            house.says = says;
            house.seen = seen;
            house.lines = lines;
        }

        // ---- tokens

        /** Nothing behind a broken token can matter, so the tokens end with it or with the text. */
        private void splitText() {
            tokenCount = 0;
            int from = 0;
            while (from < length && (tokenCount == 0 || tokens[tokenCount - 1] != BROKEN)
                && tokenCount < TAPE_BYTES) {
                int to = tokenEnd(from);
                if (to > from) {
                    starts[tokenCount] = from;
                    tokens[tokenCount] = tokenOf(from, to);
                    tokenCount++;
                }
                from = Math.max(to, from + 1);
            }
            starts[tokenCount] = length;
            tokens[tokenCount] = TEXT_END;
            tokenCount++;
        }

        private int byteAt(int i) {
            return text != null && i >= 0 && i < length && i < text.length ? text[i] & 255 : 0;
        }

        /** The kinds of bytes that tokens are made of; a sign stands alone. */
        private static boolean isLetter(int sign) {
            return sign >= 'a' && sign <= 'z';
        }

        private static boolean isDigit(int sign) {
            return sign >= '0' && sign <= '9';
        }

        /** Of a blank there is no token: it ends where it begins. */
        private int tokenEnd(int from) {
            int first = byteAt(from);
            if (first == ' ' || first == '\n') {
                return from;
            }
            int to = from + 1;
            while (to < length && (isLetter(first) && isLetter(byteAt(to))
                || isDigit(first) && isDigit(byteAt(to)))) {
                to++;
            }
            return to;
        }

        private int tokenOf(int from, int to) {
            int first = byteAt(from);
            if (isLetter(first)) {
                return wordToken(from, to);
            }
            if (isDigit(first)) {
                return numberToken(from, to);
            }
            return SIGNS.indexOf((char) first) >= 0 ? first : BROKEN;
        }

        private int numberToken(int from, int to) {
            if (to - from > MOST_DIGITS) {
                return BROKEN;
            }
            int number = 0;
            for (int i = from; i < to; i++) {
                number = 10 * number + byteAt(i) - '0';
            }
            return NUMBERS + number;
        }

        private int wordToken(int from, int to) {
            int word = HOUSE;
            int begin = 0;
            for (int i = 0; i < WORDS.length(); i++) {
                if (WORDS.charAt(i) == ' ') {
                    if (i - begin == to - from && isWord(from, begin, i)) {
                        return word;
                    }
                    word++;
                    begin = i + 1;
                }
            }
            return OTHER_WORD;
        }

        private boolean isWord(int from, int begin, int end) {
            for (int i = begin; i < end && i < WORDS.length(); i++) {
                if (WORDS.charAt(i) != byteAt(from + i - begin)) {
                    return false;
                }
            }
            return true;
        }

        private void step() {
            at++;
            token = at >= 0 && at < tokenCount && at < tokens.length ? tokens[at] : TEXT_END;
        }

        private boolean isNumber() {
            return token >= NUMBERS;
        }

        private boolean refuse(int kind) {
            fault = token == BROKEN ? NO_TOKEN : kind;
            faultPlace = at >= 0 && at < tokenCount && at < starts.length ? starts[at] : length;
            return false;
        }

        private boolean pass(int wanted) {
            if (token != wanted) {
                return refuse(OUT_OF_PLACE);
            }
            step();
            return true;
        }

        private boolean passNumberBelow(int bound) {
            if (!isNumber()) {
                return refuse(OUT_OF_PLACE);
            }
            if (token - NUMBERS >= bound) {
                return refuse(OUT_OF_BOUNDS);
            }
            step();
            return true;
        }

        // ---- lines

        private boolean endLine() {
            lines++;
            return pass(';');
        }

        private boolean readHouse() {
            if (!pass(HOUSE) || !pass(MOOD)) {
                return false;
            }
            facts.mood = token - NUMBERS;
            return passNumberBelow(MOODS);
        }

        private boolean readLine() {
            switch (token) {
                case CLASS:
                    return readClass();
                case METHOD:
                    return readMethod();
                case SAYS:
                case SEEN:
                    return readLaw();
                default:
                    return refuse(OUT_OF_PLACE);
            }
        }

        private boolean readClass() {
            int c = facts.classes;
            if (c >= MOST_CLASSES) {
                return refuse(ONE_TOO_MANY);
            }
            step();
            for (int i = 0; i < TAPE_BYTES && isNumber(); i++) {
                int p = token - NUMBERS;
                if (p >= c || facts.parentPlace(c, p) != NONE) {
                    return refuse(OUT_OF_BOUNDS);
                }
                if (facts.parentCount(c) >= MOST_PARENTS) {
                    return refuse(ONE_TOO_MANY);
                }
                facts.appendParent(c, p);
                step();
            }
            facts.classes = c + 1;
            return true;
        }

        private boolean readMethod() {
            step();
            int m = token - NUMBERS;
            if (!passNumberBelow(METHODS) || !pass(IN)) {
                return false;
            }
            int c = token - NUMBERS;
            if (!passNumberBelow(facts.classes)) {
                return false;
            }
            if (token != ENDS && token != NEXT) {
                return refuse(OUT_OF_PLACE);
            }
            facts.putDefinition(c, m, token == ENDS ? 0 : 1);
            step();
            return true;
        }

        private boolean readLaw() {
            readsSays = token == SAYS;
            codeSize = 0;
            nested = 0;
            step();
            if (!pass(':') || !(readsSays ? readSum() : readTruth())) {
                return false;
            }
            int[] law = Arrays.copyOf(code, Math.min(codeSize, code.length));
            if (readsSays) {
                says = law;
            } else {
                seen = law;
            }
            return true;
        }

        // ---- laws, into a code that works on a stack: numbers, or tokens below 0

        private void emit(int item) {
            if (codeSize < code.length) {
                code[codeSize] = item;
                codeSize++;
            }
        }

        /** The document's limit on nesting is what keeps the reading of laws from going deep. */
        private boolean enter() {
            if (nested >= MOST_NESTED) {
                return refuse(ONE_TOO_MANY);
            }
            nested++;
            step();
            return true;
        }

        private boolean leave() {
            nested--;
            return true;
        }

        private boolean readSum() {
            boolean good = readTerm();
            for (int i = 0; i < TAPE_BYTES && good && (token == '+' || token == '-'); i++) {
                int sign = token;
                step();
                good = readTerm();
                emit(-sign);
            }
            return good;
        }

        private boolean readTerm() {
            boolean good = readAtom();
            for (int i = 0; i < TAPE_BYTES && good && token == '*'; i++) {
                step();
                good = readAtom();
                emit(-'*');
            }
            return good;
        }

        private boolean readAtom() {
            if (isNumber()) {
                emit(token - NUMBERS);
                step();
                return true;
            }
            switch (token) {
                case '(':
                    return enter() && readSum() && pass(')') && leave();
                case IF:
                    return enter() && readChoice() && leave();
                case NEXT:
                case DEPTH:
                    return readsSays ? readName() : refuse(OUT_OF_PLACE);
                case METHOD:
                case IN:
                case FOR:
                case MOOD:
                    return readName();
                default:
                    return refuse(OUT_OF_PLACE);
            }
        }

        private boolean readName() {
            emit(-token);
            step();
            return true;
        }

        private boolean readChoice() {
            boolean good = readTruth() && pass(THEN) && readSum() && pass(ELSE) && readSum() && pass(END);
            emit(-IF);
            return good;
        }

        private boolean readTruth() {
            boolean good = readBoth();
            for (int i = 0; i < TAPE_BYTES && good && token == OR; i++) {
                step();
                good = readBoth();
                emit(-OR);
            }
            return good;
        }

        private boolean readBoth() {
            boolean good = readUnit();
            for (int i = 0; i < TAPE_BYTES && good && token == AND; i++) {
                step();
                good = readUnit();
                emit(-AND);
            }
            return good;
        }

        private boolean readUnit() {
            if (token == NOT) {
                boolean good = enter() && readUnit() && leave();
                emit(-NOT);
                return good;
            }
            if (token == '[') {
                return enter() && readTruth() && pass(']') && leave();
            }
            return readSum() && readComparison();
        }

        private boolean readComparison() {
            int sign = token;
            if (sign != '=' && sign != '<' && sign != '>') {
                return refuse(OUT_OF_PLACE);
            }
            step();
            boolean good = readSum();
            emit(-sign);
            return good;
        }
    }

    /** Follows calls along the orders, and tells what they say. */
    private static final class Voice {
        /** Far above what six within one another can need. */
        private static final int STACK = 100;

        private final House house;
        private final Orders orders;
        private final int[] path = new int[MOST_CLASSES];
        private int pathSize;
        private final int[] reached = new int[METHODS];
        private final int[] answers = new int[MOODS];
        private final int[] stack = new int[STACK];
        private int top;

        private int method;
        private int owner;
        private int caller;
        private int mood;
        private int next;
        private int depth;

        Voice(House house, Orders orders) {
            this.house = house;
            this.orders = orders;
        }

        /** Keeps the places, in the order of c, of the definitions that a call goes through. */
        void trace(int c, int m, int byMood) {
            pathSize = 0;
            caller = c;
            method = m;
            mood = byMood;
            for (int i = 0; i < orders.sizeOf(c) && pathSize < path.length; i++) {
                owner = orders.at(c, i);
                int way = house.facts.definitionAt(owner, m);
                if (way != UNDEFINED && (house.seen == null || run(house.seen) != 0)) {
                    path[pathSize] = i;
                    pathSize++;
                    if (way == ENDING) {
                        return;
                    }
                }
            }
        }

        int passed(int i) {
            return i >= 0 && i < pathSize && i < path.length ? orders.at(caller, path[i]) : NONE;
        }

        int answer(int c, int m, int byMood) {
            trace(c, m, byMood);
            if (pathSize == 0) {
                return CALL_CODES + NONE;
            }
            next = 0;
            for (int i = Math.min(pathSize, path.length) - 1; i >= 0; i--) {
                depth = path[i];
                owner = orders.at(c, depth);
                next = house.says == null ? keep(10L * owner + method + next) : run(house.says);
            }
            return next;
        }

        /** Of some moods (bits) the greatest number by which a call says the same. */
        int mostAlike(int c, int m, int bits) {
            int n = 0;
            for (int by = 0; by < MOODS; by++) {
                if ((bits >> by & 1) != 0 && n < answers.length) {
                    answers[n] = answer(c, m, by);
                    n++;
                }
            }
            int most = 0;
            for (int i = 0; i < n; i++) {
                int alike = 0;
                for (int j = 0; j < n; j++) {
                    if (answers[j] == answers[i]) {
                        alike++;
                    }
                }
                most = Math.max(most, alike);
            }
            return most;
        }

        void markReached() {
            Arrays.fill(reached, 0);
            for (int c = 0; c < house.facts.classes; c++) {
                for (int m = 0; m < METHODS; m++) {
                    trace(c, m, house.facts.mood);
                    for (int i = 0; i < pathSize; i++) {
                        reached[m] |= 1 << passed(i);
                    }
                }
            }
        }

        boolean isDead(int c, int m) {
            return house.facts.definitionAt(c, m) != UNDEFINED && isMethod(m)
                && (reached[m] >> c & 1) == 0;
        }

        private int run(int[] code) {
            top = 0;
            for (int item : code) {
                if (item >= 0) {
                    push(item);
                } else {
                    work(-item);
                }
            }
            return pop();
        }

        private void push(int v) {
            if (top >= 0 && top < stack.length) {
                stack[top] = v;
                top++;
            }
        }

        private int pop() {
            if (top <= 0 || top > stack.length) {
                return 0;
            }
            top--;
            return stack[top];
        }

        private void work(int token) {
            switch (token) {
                case Reader.METHOD:
                    push(method);
                    break;
                case Reader.IN:
                    push(owner);
                    break;
                case Reader.FOR:
                    push(caller);
                    break;
                case Reader.MOOD:
                    push(mood);
                    break;
                case Reader.NEXT:
                    push(next);
                    break;
                case Reader.DEPTH:
                    push(depth);
                    break;
                case Reader.NOT:
                    push(1 - pop());
                    break;
                case Reader.IF:
                    int otherwise = pop();
                    int then = pop();
                    push(pop() != 0 ? then : otherwise);
                    break;
                default:
                    int second = pop();
                    int first = pop();
                    push(keep(joined(token, first, second)));
                    break;
            }
        }

        private static long joined(int token, long first, long second) {
            switch (token) {
                case '+':
                    return first + second;
                case '-':
                    return first - second;
                case '*':
                    return first * second;
                case '=':
                    return first == second ? 1 : 0;
                case '<':
                    return first < second ? 1 : 0;
                case '>':
                    return first > second ? 1 : 0;
                case Reader.AND:
                    return first & second;
                default:
                    return first | second;
            }
        }

        private static int keep(long v) {
            if (v > MOST_SAID) {
                return MOST_SAID;
            }
            return v < -MOST_SAID ? -MOST_SAID : (int) v;
        }
    }

    /** Finds the fewest links to be taken so that all classes have an order. */
    private static final class Mender {
        private final Orders orders = new Orders();
        /** Of each class, as bits, the places of the parents that are taken. */
        private final int[] takenPlaces = new int[MOST_CLASSES];
        private final int[] links = new int[MOST_REPAIRS];
        private int fewest;
        private boolean known;

        void learn(Facts facts) {
            if (known) {
                return;
            }
            known = true;
            fewest = NONE;
            for (int n = 0; n <= MOST_REPAIRS && fewest == NONE; n++) {
                if (mendFrom(facts, 0, n)) {
                    fewest = n;
                    noteLinks(facts);
                }
            }
        }

        int linkAt(int i) {
            return i >= 0 && i < fewest && i < links.length ? links[i] : NONE;
        }

        /**
         * A class's order hangs on those below it in number alone, so what is refused once is
         * refused however it goes on. To take a link is tried ahead of not to take it, so that of
         * as many links the first ones by numbers are found first.
         */
        private boolean mendFrom(Facts facts, int c, int left) {
            if (c >= facts.classes || c >= MOST_CLASSES) {
                return true;
            }
            int n = Math.min(facts.parentCount(c), MOST_PARENTS);
            for (int choice = (1 << n) - 1; choice >= 0; choice--) {
                int cost = Integer.bitCount(choice);
                int places = placesOf(choice, n);
                if (cost <= left && orders.settleWithout(facts, c, places) == ORDERED) {
                    takenPlaces[c] = places;
                    if (mendFrom(facts, c + 1, left - cost)) {
                        return true;
                    }
                }
            }
            return false;
        }

        /** The highest bit of a choice is the first place: counted down, earlier links go first. */
        private static int placesOf(int choice, int n) {
            int places = 0;
            for (int i = 0; i < n; i++) {
                places |= (choice >> n - 1 - i & 1) << i;
            }
            return places;
        }

        private void noteLinks(Facts facts) {
            int n = 0;
            for (int c = 0; c < facts.classes && c < MOST_CLASSES; c++) {
                for (int i = 0; i < MOST_PARENTS; i++) {
                    if ((takenPlaces[c] >> i & 1) != 0 && n < links.length) {
                        links[n] = 10 * c + facts.parentAt(c, i);
                        n++;
                    }
                }
            }
        }
    }

    /** Counts what comes of all draws of some lots. */
    private static final class Lots {
        private final Orders orders = new Orders();
        /** How many draws make the classes of a set, and no others, swap in the end. */
        private final int[] tallies = new int[1 << LOTS];
        private int draws;
        private int allOrdered;
        private int ordered;
        /** For how many lots the numbers above hold. */
        private int known = NONE;

        void learn(Facts facts, int n) {
            if (known == n) {
                return;
            }
            known = n;
            tally(n);
            allOrdered = 0;
            ordered = 0;
            for (int set = 0; set < tallies.length; set++) {
                if (tallies[set] > 0) {
                    int found = orderedIf(facts, set);
                    ordered += found * tallies[set];
                    allOrdered += found == facts.classes ? tallies[set] : 0;
                }
            }
        }

        /** To swap twice is not to swap, and the classes' swaps do not mind one another. */
        private void tally(int n) {
            Arrays.fill(tallies, 0);
            draws = 1;
            for (int i = 0; i < n && i < MOST_LOTS; i++) {
                draws *= LOTS;
            }
            for (int draw = 0; draw < draws; draw++) {
                int set = 0;
                int rest = draw;
                for (int i = 0; i < n && i < MOST_LOTS; i++) {
                    set ^= 1 << rest % LOTS;
                    rest /= LOTS;
                }
                if (set >= 0 && set < tallies.length) {
                    tallies[set]++;
                }
            }
        }

        private int orderedIf(Facts facts, int swapped) {
            int found = 0;
            for (int c = 0; c < facts.classes; c++) {
                int state = (swapped >> c & 1) != 0
                    ? orders.settleSwapped(facts, c) : orders.settleWithout(facts, c, 0);
                if (state == ORDERED) {
                    found++;
                }
            }
            return found;
        }
    }
}
