/**
 * A tracer of lines: revisions of a text, told by a text, and for each of
 * their lines the revision where it began. The words in capitals are those
 * of the document.
 *
 * Every row is made with the object and used again: no call makes objects.
 */
public final class LineOrigins {
    public static final int BAD = -1, STATE = -2, FULL = -3, NONE = -9;

    /** REVISIONS at most, and LINES of each: a LINE's address is its REVISION by this, and the LINE. */
    private static final int MOST = 8;
    private static final int ALL_LINES = MOST * MOST;
    private static final int MOST_LETTERS = 120;
    private static final int MOST_SEEN = 6;
    private static final int MOST_UNDONE = 10;
    private static final int IMAGES = 2;

    private static final int PARENTS = 2;
    private static final int FIRST_PARENT = 0;
    private static final int SECOND_PARENT = 1;

    private static final int RULES = 4;
    private static final int FIRST = 0;
    private static final int SECOND = 1;
    private static final int MOVED = 2;
    private static final int PASSED = 3;

    private static final int MOST_BLOCK = 4;
    private static final int BLOCK_AT_FIRST = 2;
    private static final int RULES_AT_FIRST = (1 << RULES) - 1;

    /** What the Reader answers for a text without a FAULT; no place is below 0. */
    private static final int NO_FAULT = -1;
    private static final int FAULT_BASE = -10;

    private final Text text = new Text();
    private final Reader reader = new Reader();
    private final Revisions draft = new Revisions();
    private final Revisions revisions = new Revisions();
    private final Parentage parentage = new Parentage();
    private final Settings settings = new Settings();
    private final Settings trialSettings = new Settings();
    private final Traces traces = new Traces();
    private final Traces trialTraces = new Traces();
    private final Changes changes = new Changes();
    private final Sights sights = new Sights();
    private final int[] images = {NONE, NONE};

    public LineOrigins() {
    }

    // ---- what is told

    public int type(int letter) {
        if (letter < 0 || letter > 255) {
            return BAD;
        }
        if (text.size() >= MOST_LETTERS) {
            return FULL;
        }
        text.add(letter);
        return text.size();
    }

    public int clear() {
        int had = text.size();
        text.becomeEmpty();
        return had;
    }

    public int history() {
        // Read into a draft, since a text with a FAULT must change nothing.
        int fault = reader.read(text, draft);
        if (fault != NO_FAULT) {
            return FAULT_BASE - fault;
        }
        revisions.copyFrom(draft);
        parentage.workOut(revisions);
        text.becomeEmpty();
        settings.becomeAsAtFirst();
        changes.becomeEmpty();
        sights.becomeEmpty();
        for (int image = 0; image < IMAGES; image++) {
            images[image] = NONE;
        }
        traceAnew();
        return revisions.told();
    }

    public int revision(int r, int what) {
        if (!revisions.has(r)) {
            return BAD;
        }
        switch (what) {
            case 0:
                return revisions.size(r);
            case 1:
                return revisions.parent(r, FIRST_PARENT);
            case 2:
                return revisions.parent(r, SECOND_PARENT);
            case 3:
                return settings.isPassed(r) ? 1 : 0;
            default:
                return BAD;
        }
    }

    public int line(int r, int k, int what) {
        if (!revisions.hasLine(r, k)) {
            return BAD;
        }
        switch (what) {
            case 0:
                return revisions.letter(r, k);
            case 1:
                return parentage.pair(FIRST_PARENT, r, k);
            case 2:
                return parentage.pair(SECOND_PARENT, r, k);
            case 3:
                return traces.rule(r, k);
            case 4:
                return traces.origin(r, k) / MOST;
            case 5:
                return traces.origin(r, k) % MOST;
            case 6:
                return traces.steps(r, k);
            default:
                return BAD;
        }
    }

    // ---- what is done

    public int blocks(int n) {
        if (n < 0 || n > MOST_BLOCK) {
            return BAD;
        }
        int was = settings.block();
        if (n == was) {
            return STATE;
        }
        changes.add(settings.code());
        settings.setBlock(n);
        traceAnew();
        return was;
    }

    public int passes(int r) {
        if (!revisions.has(r)) {
            return BAD;
        }
        changes.add(settings.code());
        settings.turnPassed(r);
        traceAnew();
        return settings.isPassed(r) ? 1 : 0;
    }

    public int rules(int rule) {
        if (rule < 0 || rule >= RULES) {
            return BAD;
        }
        changes.add(settings.code());
        settings.turnRule(rule);
        traceAnew();
        return settings.isOn(rule) ? 1 : 0;
    }

    public int undo() {
        if (changes.size() == 0) {
            return STATE;
        }
        settings.become(changes.takeLatest());
        traceAnew();
        return changes.size();
    }

    // ---- where lines began

    public int gives(int rule, int r, int k) {
        if (rule < 0 || rule >= RULES || !revisions.hasLine(r, k)) {
            return BAD;
        }
        return parentage.given(rule, r, k, settings);
    }

    public int begun(int r, int from) {
        if (!revisions.has(r) || !revisions.has(from)) {
            return BAD;
        }
        int bits = 0;
        for (int k = 0; k < revisions.size(r); k++) {
            if (traces.origin(r, k) / MOST == from) {
                bits |= 1 << k;
            }
        }
        return bits;
    }

    public int age(int r, int k) {
        if (!revisions.has(r) || k < 0) {
            return BAD;
        }
        for (int line = 0; line < revisions.size(r); line++) {
            if (olderOnes(r, line) == k) {
                return line;
            }
        }
        return NONE;
    }

    public int like(int r, int k, int other) {
        if (!revisions.hasLine(r, k) || !revisions.has(other)) {
            return BAD;
        }
        return linesFrom(traces.origin(r, k), other);
    }

    public int carried(int r, int k) {
        if (!revisions.hasLine(r, k)) {
            return BAD;
        }
        int bits = 0;
        for (int other = 0; other < revisions.told(); other++) {
            if (linesFrom(address(r, k), other) != 0) {
                bits |= 1 << other;
            }
        }
        return bits;
    }

    public int kept(int r, int other) {
        if (!revisions.has(r) || !revisions.has(other)) {
            return BAD;
        }
        // A LINE that is not its own ORIGIN is that of no other, so it needs no test of its own.
        int number = 0;
        for (int k = 0; k < revisions.size(r); k++) {
            if (linesFrom(address(r, k), other) != 0) {
                number++;
            }
        }
        return number;
    }

    public int common(int r, int parent) {
        if (!revisions.has(r) || parent < 0 || parent >= PARENTS) {
            return BAD;
        }
        return parentage.commonOfAll(parent, r);
    }

    // ---- which was passed over

    public int sees(int r, int k, int from, int is) {
        if (!revisions.hasLine(r, k) || !revisions.has(from) || is < 0 || is > 1) {
            return BAD;
        }
        if (sights.size() >= MOST_SEEN) {
            return FULL;
        }
        sights.add(address(r, k), from, is == 1);
        return sights.size();
    }

    public int forget() {
        int was = sights.size();
        sights.becomeEmpty();
        return was;
    }

    public int unseen() {
        int bits = 0;
        for (int r = 0; r < revisions.told(); r++) {
            trialSettings.become(settings.code());
            trialSettings.turnPassed(r);
            trialTraces.follow(revisions, parentage, trialSettings);
            if (sights.areAllSo(trialTraces)) {
                bits |= 1 << r;
            }
        }
        return bits;
    }

    // ---- images

    public int keep(int image) {
        if (image < 0 || image >= IMAGES) {
            return BAD;
        }
        images[image] = settings.code();
        return settings.block();
    }

    public int back(int image) {
        if (image < 0 || image >= IMAGES) {
            return BAD;
        }
        if (images[image] == NONE) {
            return STATE;
        }
        settings.become(images[image]);
        changes.becomeEmpty();
        traceAnew();
        return settings.block();
    }

    public int count(int what) {
        switch (what) {
            case 0:
                return revisions.told();
            case 1:
                return settings.block();
            case 2:
                return settings.passedBits();
            case 3:
                return settings.ruleBits();
            case 4:
                return revisions.allLines();
            case 5:
                return ownOrigins();
            case 6:
                return sights.size();
            case 7:
                return text.size();
            case 8:
                return changes.size();
            default:
                return BAD;
        }
    }

    // ---- helpers of the face

    private void traceAnew() {
        traces.follow(revisions, parentage, settings);
    }

    /** LINES (bits) of a REVISION whose ORIGIN has this address. */
    private int linesFrom(int origin, int r) {
        int bits = 0;
        for (int k = 0; k < revisions.size(r); k++) {
            if (traces.origin(r, k) == origin) {
                bits |= 1 << k;
            }
        }
        return bits;
    }

    /** How many LINES come ahead of this one by AGE: addresses have the order that AGE asks for. */
    private int olderOnes(int r, int line) {
        int origin = traces.origin(r, line);
        int number = 0;
        for (int k = 0; k < revisions.size(r); k++) {
            int another = traces.origin(r, k);
            if (another < origin || (another == origin && k < line)) {
                number++;
            }
        }
        return number;
    }

    private int ownOrigins() {
        int number = 0;
        for (int r = 0; r < revisions.told(); r++) {
            for (int k = 0; k < revisions.size(r); k++) {
                if (traces.origin(r, k) == address(r, k)) {
                    number++;
                }
            }
        }
        return number;
    }

    private static int address(int r, int k) {
        return r * MOST + k;
    }

    /** Whether r and k can be those of a LINE, told or not: a row of ALL_LINES has their address. */
    private static boolean isPlace(int r, int k) {
        return r >= 0 && r < MOST && k >= 0 && k < MOST;
    }

    /** THE TEXT. */
    private static final class Text {
        private final int[] letters = new int[MOST_LETTERS];
        private int length = 0;

        int size() {
            return length;
        }

        void add(int letter) {
            if (length < MOST_LETTERS) {
                letters[length] = letter;
                length++;
            }
        }

        void becomeEmpty() {
            length = 0;
        }

        /** The letter at a place; NONE outside the text. */
        int at(int place) {
            return place >= 0 && place < length ? letters[place] : NONE;
        }

        boolean isDigit(int place) {
            int letter = at(place);
            return letter >= '0' && letter <= '9';
        }

        /** The NUMBER that begins at a place; NONE if it is above 99 or has a 0 ahead of others. */
        int numberAt(int place) {
            if (!isDigit(place)) {
                return NONE;
            }
            int value = at(place) - '0';
            if (!isDigit(place + 1)) {
                return value;
            }
            // Three digits are above 99 or have a 0 ahead: no longer NUMBER needs its value.
            if (value == 0 || isDigit(place + 2)) {
                return NONE;
            }
            return value * 10 + at(place + 1) - '0';
        }
    }

    /** Reads a text into REVISIONS, TOKEN by TOKEN. */
    private static final class Reader {
        private static final int AHEAD_OF_ITEM = 0;
        private static final int IN_PARENTS = 1;
        private static final int IN_LINES = 2;

        private int state = AHEAD_OF_ITEM;

        /** FAULT, or NO_FAULT. */
        int read(Text text, Revisions draft) {
            state = AHEAD_OF_ITEM;
            draft.becomeEmpty();
            for (int place = 0; place < text.size(); place++) {
                if (beginsToken(text, place) && !takes(text, place, draft)) {
                    return place;
                }
            }
            return state == AHEAD_OF_ITEM ? NO_FAULT : text.size();
        }

        /** A digit behind a digit belongs to a NUMBER that was taken at its first one. */
        private static boolean beginsToken(Text text, int place) {
            if (text.at(place) == ' ') {
                return false;
            }
            return !(text.isDigit(place) && text.isDigit(place - 1));
        }

        /** Whether the TOKEN that begins here can stand here. */
        private boolean takes(Text text, int place, Revisions draft) {
            int letter = text.at(place);
            if (letter == 'R') {
                return takesRevision(draft);
            }
            if (letter == ':') {
                return takesColon();
            }
            if (letter == ';') {
                return takesEnd(draft);
            }
            if (letter >= 'a' && letter <= 'z') {
                return state == IN_LINES && draft.addLine(letter);
            }
            // Any other letter has no number, and NONE is no PARENT.
            return state == IN_PARENTS && draft.addParent(text.numberAt(place));
        }

        private boolean takesRevision(Revisions draft) {
            if (state != AHEAD_OF_ITEM || !draft.begin()) {
                return false;
            }
            state = IN_PARENTS;
            return true;
        }

        private boolean takesColon() {
            if (state != IN_PARENTS) {
                return false;
            }
            state = IN_LINES;
            return true;
        }

        private boolean takesEnd(Revisions draft) {
            if (state != IN_LINES) {
                return false;
            }
            draft.end();
            state = AHEAD_OF_ITEM;
            return true;
        }
    }

    /** REVISIONS as told; one that is being told stands behind them, and is none till it ends. */
    private static final class Revisions {
        private int number = 0;
        private final int[] parents = new int[MOST * PARENTS];
        private final int[] sizes = new int[MOST];
        private final int[] letters = new int[ALL_LINES];

        int told() {
            return number;
        }

        boolean has(int r) {
            return r >= 0 && r < number && r < MOST;
        }

        boolean hasLine(int r, int k) {
            return r >= 0 && r < number && r < MOST && k >= 0 && k < sizes[r];
        }

        int size(int r) {
            return has(r) ? sizes[r] : 0;
        }

        int parent(int r, int which) {
            if (!has(r) || which < 0 || which >= PARENTS) {
                return NONE;
            }
            return parents[r * PARENTS + which];
        }

        int letter(int r, int k) {
            return hasLine(r, k) && k < MOST ? letters[address(r, k)] : NONE;
        }

        int allLines() {
            int all = 0;
            for (int r = 0; r < number && r < MOST; r++) {
                all += sizes[r];
            }
            return all;
        }

        void becomeEmpty() {
            number = 0;
        }

        boolean begin() {
            if (number >= MOST) {
                return false;
            }
            sizes[number] = 0;
            parents[number * PARENTS + FIRST_PARENT] = NONE;
            parents[number * PARENTS + SECOND_PARENT] = NONE;
            return true;
        }

        boolean addParent(int parent) {
            if (number >= MOST || !has(parent)) {
                return false;
            }
            int first = number * PARENTS + FIRST_PARENT;
            int second = number * PARENTS + SECOND_PARENT;
            if (parents[first] == NONE) {
                parents[first] = parent;
                return true;
            }
            if (parents[second] != NONE || parents[first] == parent) {
                return false;
            }
            parents[second] = parent;
            return true;
        }

        boolean addLine(int letter) {
            if (number >= MOST || sizes[number] >= MOST) {
                return false;
            }
            letters[address(number, sizes[number])] = letter;
            sizes[number]++;
            return true;
        }

        void end() {
            if (number < MOST) {
                number++;
            }
        }

        void copyFrom(Revisions other) {
            number = other.number;
            System.arraycopy(other.parents, 0, parents, 0, MOST * PARENTS);
            System.arraycopy(other.sizes, 0, sizes, 0, MOST);
            System.arraycopy(other.letters, 0, letters, 0, ALL_LINES);
        }
    }

    /** COMMON and PAIRS of each REVISION and its first, or its second PARENT. */
    private static final class Pairing {
        private static final int SIDE = MOST + 1;

        private final int which;
        private final int[] parents = new int[MOST];
        private final int[] pairs = new int[ALL_LINES];
        private final int[] pairedInParent = new int[MOST];
        private final int[] commons = new int[MOST];
        private final int[] table = new int[SIDE * SIDE];

        Pairing(int which) {
            this.which = which;
        }

        int parent(int r) {
            return r >= 0 && r < MOST ? parents[r] : NONE;
        }

        /** The PARENT's LINE that is this LINE's PAIR; NONE. */
        int pair(int r, int k) {
            return isPlace(r, k) ? pairs[address(r, k)] : NONE;
        }

        /** Whether a LINE of the PARENT has a PAIR in the REVISION. */
        boolean isPaired(int r, int parentLine) {
            return isPlace(r, parentLine) && (pairedInParent[r] >> parentLine & 1) == 1;
        }

        int commonOfAll(int r) {
            return r >= 0 && r < MOST ? commons[r] : NONE;
        }

        void workOut(Revisions revisions) {
            for (int r = 0; r < MOST; r++) {
                becomeUnpaired(r);
                int parent = revisions.parent(r, which);
                parents[r] = parent;
                if (parent != NONE) {
                    fillTable(revisions, parent, r);
                    commons[r] = table[0];
                    walk(revisions, parent, r);
                }
            }
        }

        private void becomeUnpaired(int r) {
            for (int k = 0; k < MOST; k++) {
                pairs[address(r, k)] = NONE;
            }
            pairedInParent[r] = 0;
            commons[r] = NONE;
        }

        /** COMMON of every i and j, from the ends on, where it is 0. */
        private void fillTable(Revisions revisions, int parent, int r) {
            int rows = revisions.size(parent);
            int columns = revisions.size(r);
            for (int i = rows; i >= 0; i--) {
                for (int j = columns; j >= 0; j--) {
                    int most = 0;
                    if (i < rows && j < columns) {
                        boolean alike = revisions.letter(parent, i) == revisions.letter(r, j);
                        most = Math.max(commonFrom(i + 1, j), commonFrom(i, j + 1));
                        most = alike ? Math.max(most, commonFrom(i + 1, j + 1) + 1) : most;
                    }
                    setCommonFrom(i, j, most);
                }
            }
        }

        private int commonFrom(int i, int j) {
            return i >= 0 && i < SIDE && j >= 0 && j < SIDE ? table[i * SIDE + j] : 0;
        }

        private void setCommonFrom(int i, int j, int most) {
            if (i >= 0 && i < SIDE && j >= 0 && j < SIDE) {
                table[i * SIDE + j] = most;
            }
        }

        private void walk(Revisions revisions, int parent, int r) {
            int i = 0;
            int j = 0;
            while (i < revisions.size(parent) && j < revisions.size(r)) {
                boolean alike = revisions.letter(parent, i) == revisions.letter(r, j);
                if (alike && commonFrom(i, j) == commonFrom(i + 1, j + 1) + 1) {
                    setPair(r, i, j);
                    i++;
                    j++;
                } else if (commonFrom(i + 1, j) >= commonFrom(i, j + 1)) {
                    i++;
                } else {
                    j++;
                }
            }
        }

        private void setPair(int r, int parentLine, int k) {
            if (isPlace(r, k)) {
                pairs[address(r, k)] = parentLine;
                pairedInParent[r] |= 1 << parentLine;
            }
        }
    }

    /** Of each LINE the longest row for MOVED: BLOCK only decides whether it is long enough. */
    private static final class Moves {
        private final int[] lengths = new int[ALL_LINES];
        private final int[] sources = new int[ALL_LINES];

        /** How long the longest row with this LINE is; 0: there is none. */
        int lengthOf(int r, int k) {
            return isPlace(r, k) ? lengths[address(r, k)] : 0;
        }

        /** The PARENT's LINE that stands in the PARENT's row as this one does in its own. */
        int source(int r, int k) {
            return isPlace(r, k) ? sources[address(r, k)] : NONE;
        }

        void workOut(Revisions revisions, Pairing pairing) {
            for (int r = 0; r < MOST; r++) {
                for (int k = 0; k < MOST; k++) {
                    lengths[address(r, k)] = 0;
                    sources[address(r, k)] = NONE;
                }
                workOutOne(revisions, pairing, r);
            }
        }

        /** The order of the beginnings is that of the document, so of rows as long the first one stays. */
        private void workOutOne(Revisions revisions, Pairing pairing, int r) {
            int parent = revisions.parent(r, FIRST_PARENT);
            for (int i = 0; i < revisions.size(parent); i++) {
                for (int j = 0; j < revisions.size(r); j++) {
                    offer(r, i, j, rowLength(revisions, pairing, r, i, j));
                }
            }
        }

        private static int rowLength(Revisions revisions, Pairing pairing, int r, int i, int j) {
            int parent = revisions.parent(r, FIRST_PARENT);
            int length = 0;
            while (length < MOST && i + length < revisions.size(parent) && j + length < revisions.size(r)
                    && revisions.letter(parent, i + length) == revisions.letter(r, j + length)
                    && !pairing.isPaired(r, i + length) && pairing.pair(r, j + length) == NONE) {
                length++;
            }
            return length;
        }

        private void offer(int r, int i, int j, int length) {
            for (int step = 0; step < length; step++) {
                if (length > lengthOf(r, j + step) && isPlace(r, j + step)) {
                    lengths[address(r, j + step)] = length;
                    sources[address(r, j + step)] = i + step;
                }
            }
        }
    }

    /** Of each LINE the one that the RULE PASSED gives if its REVISION is PASSED. */
    private static final class Gaps {
        private final int[] sources = new int[ALL_LINES];

        int source(int r, int k) {
            return isPlace(r, k) ? sources[address(r, k)] : NONE;
        }

        void workOut(Revisions revisions, Pairing pairing) {
            for (int r = 0; r < MOST; r++) {
                // The beginning counts as a PAIR of the places ahead of both first LINES.
                int ahead = -1;
                int pairAhead = -1;
                for (int k = 0; k < MOST; k++) {
                    int source = pairAhead + k - ahead;
                    boolean gives = isUnpaired(revisions, pairing, r, pairAhead + 1, source);
                    sources[address(r, k)] = gives ? source : NONE;
                    if (pairing.pair(r, k) != NONE) {
                        ahead = k;
                        pairAhead = pairing.pair(r, k);
                    }
                }
            }
        }

        /** Whether the first PARENT has the last one of these LINES, and none of them has a PAIR. */
        private static boolean isUnpaired(Revisions revisions, Pairing pairing, int r, int first, int last) {
            if (last >= revisions.size(revisions.parent(r, FIRST_PARENT))) {
                return false;
            }
            for (int i = first; i <= last; i++) {
                if (pairing.isPaired(r, i)) {
                    return false;
                }
            }
            return true;
        }
    }

    /** What the four RULES give; worked out once, whatever is SET, PASSED or RULED later. */
    private static final class Parentage {
        private final Pairing firstPairing = new Pairing(FIRST_PARENT);
        private final Pairing secondPairing = new Pairing(SECOND_PARENT);
        private final Moves moves = new Moves();
        private final Gaps gaps = new Gaps();

        void workOut(Revisions revisions) {
            firstPairing.workOut(revisions);
            secondPairing.workOut(revisions);
            moves.workOut(revisions, firstPairing);
            gaps.workOut(revisions, firstPairing);
        }

        int pair(int which, int r, int k) {
            return which == FIRST_PARENT ? firstPairing.pair(r, k) : secondPairing.pair(r, k);
        }

        int commonOfAll(int which, int r) {
            return which == FIRST_PARENT ? firstPairing.commonOfAll(r) : secondPairing.commonOfAll(r);
        }

        /** The address of the PARENT's LINE that a RULE, on or not, gives; NONE. */
        int given(int rule, int r, int k, Settings settings) {
            int parent = rule == SECOND ? secondPairing.parent(r) : firstPairing.parent(r);
            int source = sourceBy(rule, r, k, settings);
            return parent == NONE || source == NONE ? NONE : address(parent, source);
        }

        private int sourceBy(int rule, int r, int k, Settings settings) {
            switch (rule) {
                case FIRST:
                    return firstPairing.pair(r, k);
                case SECOND:
                    return secondPairing.pair(r, k);
                case MOVED:
                    return settings.isLongEnough(moves.lengthOf(r, k)) ? moves.source(r, k) : NONE;
                case PASSED:
                    return settings.isPassed(r) ? gaps.source(r, k) : NONE;
                default:
                    return NONE;
            }
        }
    }

    /** BLOCK, PASSED REVISIONS and RULES; one number, the code, has them all. */
    private static final class Settings {
        private static final int BLOCK_BITS = 3;

        private int block = BLOCK_AT_FIRST;
        private int passed = 0;
        private int rules = RULES_AT_FIRST;

        void becomeAsAtFirst() {
            block = BLOCK_AT_FIRST;
            passed = 0;
            rules = RULES_AT_FIRST;
        }

        int code() {
            return (passed << RULES | rules) << BLOCK_BITS | block;
        }

        void become(int code) {
            block = code & (1 << BLOCK_BITS) - 1;
            rules = code >> BLOCK_BITS & (1 << RULES) - 1;
            passed = code >> BLOCK_BITS + RULES & (1 << MOST) - 1;
        }

        int block() {
            return block;
        }

        void setBlock(int n) {
            block = n;
        }

        boolean isLongEnough(int rowLength) {
            return block > 0 && rowLength >= block;
        }

        int passedBits() {
            return passed;
        }

        boolean isPassed(int r) {
            return (passed >> r & 1) == 1;
        }

        void turnPassed(int r) {
            passed ^= 1 << r;
        }

        int ruleBits() {
            return rules;
        }

        boolean isOn(int rule) {
            return (rules >> rule & 1) == 1;
        }

        void turnRule(int rule) {
            rules ^= 1 << rule;
        }
    }

    /** What may be UNDONE: the codes of the Settings ahead of each change, the latest last. */
    private static final class Changes {
        private final int[] codes = new int[MOST_UNDONE];
        private int number = 0;

        int size() {
            return number;
        }

        void becomeEmpty() {
            number = 0;
        }

        void add(int code) {
            if (number >= MOST_UNDONE) {
                loseOldest();
            }
            codes[number] = code;
            number++;
        }

        private void loseOldest() {
            for (int i = 1; i < MOST_UNDONE; i++) {
                codes[i - 1] = codes[i];
            }
            number = MOST_UNDONE - 1;
        }

        int takeLatest() {
            if (number <= 0) {
                return NONE;
            }
            number--;
            return codes[number];
        }
    }

    /** ORIGIN and STEPS of every LINE, and the RULE that gave the first step. */
    private static final class Traces {
        private final int[] origins = new int[ALL_LINES];
        private final int[] steps = new int[ALL_LINES];
        private final int[] rules = new int[ALL_LINES];

        /** The address of a LINE's ORIGIN. */
        int origin(int r, int k) {
            return isPlace(r, k) ? origins[address(r, k)] : NONE;
        }

        int steps(int r, int k) {
            return isPlace(r, k) ? steps[address(r, k)] : 0;
        }

        int rule(int r, int k) {
            return isPlace(r, k) ? rules[address(r, k)] : NONE;
        }

        /** PARENTS are told ahead, so what is given has its ORIGIN already. */
        void follow(Revisions revisions, Parentage parentage, Settings settings) {
            for (int r = 0; r < revisions.told(); r++) {
                for (int k = 0; k < revisions.size(r); k++) {
                    if (isPlace(r, k)) {
                        followOne(parentage, settings, r, k);
                    }
                }
            }
        }

        private void followOne(Parentage parentage, Settings settings, int r, int k) {
            int line = address(r, k);
            origins[line] = line;
            steps[line] = 0;
            rules[line] = NONE;
            for (int rule = 0; rule < RULES; rule++) {
                int given = settings.isOn(rule) ? parentage.given(rule, r, k, settings) : NONE;
                if (given >= 0 && given < ALL_LINES) {
                    origins[line] = origins[given];
                    steps[line] = steps[given] + 1;
                    rules[line] = rule;
                    return;
                }
            }
        }
    }

    /** What was SEEN. */
    private static final class Sights {
        private final int[] lines = new int[MOST_SEEN];
        private final int[] origins = new int[MOST_SEEN];
        private final boolean[] truths = new boolean[MOST_SEEN];
        private int number = 0;

        int size() {
            return number;
        }

        void becomeEmpty() {
            number = 0;
        }

        void add(int line, int from, boolean is) {
            if (number < MOST_SEEN) {
                lines[number] = line;
                origins[number] = from;
                truths[number] = is;
                number++;
            }
        }

        boolean areAllSo(Traces traces) {
            for (int i = 0; i < number && i < MOST_SEEN; i++) {
                int origin = traces.origin(lines[i] / MOST, lines[i] % MOST);
                if ((origin / MOST == origins[i]) != truths[i]) {
                    return false;
                }
            }
            return true;
        }
    }
}
