/**
 * A chase for letterpress printing: rows of type blocks that are filled up with furniture of a stock and locked
 * with quoins. Each public method keeps the promise of the same name in DOC.md.
 */
public final class ChaseLocker {
    /** The value for "none". */
    public static final int NONE = -1;

    private static final int MOST_BYTES = 500;
    private static final int BYTES_APPENDED = 20;
    private static final int MOST_LONG = 500;
    private static final int MOST_ROWS = 8;
    private static final int MOST_BLOCKS = 6;
    private static final int LONGEST_BLOCK = 200;
    private static final int MOST_KINDS = 10;
    private static final int LONGEST_PIECE = 99;
    private static final int MOST_LEFT = 99;
    private static final int MOST_TURNS = 100;
    private static final int MOST_TURNS_AHEAD = 200;
    private static final int MOST_UNDO = 8;
    private static final int SLOTS = 2;
    private static final int SLACK_OF_ONE = 10;
    private static final int WAYS_MODULUS = 1000003;
    /** More pieces than any length can need: the length can't be made. */
    private static final int NEVER = 1000000;

    private final Reader reader = new Reader();
    private final Solver solver = new Solver();
    private final History history = new History();
    private final State now = new State();
    /** What is tried out before it is taken over, or only looked at. */
    private final State spare = new State();
    private final State[] saves = new State[SLOTS];
    private final boolean[] isSaved = new boolean[SLOTS];
    private final StringBuilder text = new StringBuilder();
    private Plan plan = new Plan();
    private Plan sparePlan = new Plan();
    private boolean loaded;

    public ChaseLocker() {
        for (int slot = 0; slot < SLOTS; slot++) {
            saves[slot] = new State();
        }
    }

    // ---- input

    public int append(int a, int b, int c, int d, int e) {
        return reader.addBytes(a, b, c, d, e) ? reader.inBuffer : NONE;
    }

    public int load(int n) throws IndexOutOfBoundsException, IllegalArgumentException {
        if (n < 0 || n > reader.inBuffer) {
            throw new IndexOutOfBoundsException("there are not so many bytes in the buffer");
        }
        if (!reader.readText(n, sparePlan, spare)) {
            throw new IllegalArgumentException("the text has an error");
        }
        takeOverText();
        return plan.kinds;
    }

    private void takeOverText() {
        Plan previous = plan;
        plan = sparePlan;
        sparePlan = previous;
        now.copyFrom(spare);
        history.clear();
        for (int slot = 0; slot < SLOTS; slot++) {
            isSaved[slot] = false;
        }
        loaded = true;
    }

    public int parseError() {
        return reader.errorCode;
    }

    public int errorPosition() {
        return reader.errorPlace;
    }

    public int buffered() {
        return reader.inBuffer;
    }

    // ---- what there is

    public int count(int what) throws IllegalStateException, IllegalArgumentException {
        needChase();
        switch (what) {
            case 0: return plan.rows;
            case 1: return plan.kinds;
            case 2: return now.quoins;
            case 3: return now.blocksInRows();
            case 4: return now.piecesInRows();
            case 5: return now.tightRows(plan);
            case 6: return now.impressions;
            case 7: return now.goodOnes;
            case 8: return now.days;
            case 9: return now.pied;
            case 10: return now.fallen;
            case 11: return now.piecesLeft();
            default: throw new IllegalArgumentException("there is no such count");
        }
    }

    public int setting(int what) throws IllegalStateException, IllegalArgumentException {
        needChase();
        switch (what) {
            case 0: return plan.size;
            case 1: return plan.quoinLength;
            case 2: return plan.span;
            case 3: return plan.shake;
            case 4: return plan.dry;
            case 5: return plan.hold;
            default: throw new IllegalArgumentException("there is no such setting");
        }
    }

    public int row(int row, int what)
            throws IllegalStateException, IndexOutOfBoundsException, IllegalArgumentException {
        Row asked = needRow(row);
        switch (what) {
            case 0: return asked.blockCount;
            case 1: return asked.pieceCount;
            case 2: return plan.size - asked.gapIn(plan);
            case 3: return asked.gapIn(plan);
            case 4: return asked.opening;
            case 5: return asked.slack;
            case 6: return asked.woodIn(plan);
            case 7: return asked.blockSum;
            case 8: return asked.hasQuoin() ? asked.takeUp : NONE;
            default: throw new IllegalArgumentException("there is no such property of a row");
        }
    }

    public int block(int row, int index) throws IllegalStateException, IndexOutOfBoundsException {
        Row asked = needRow(row);
        needIndex(index, asked.blockCount);
        return asked.blockAt(index);
    }

    public int piece(int row, int index) throws IllegalStateException, IndexOutOfBoundsException {
        Row asked = needRow(row);
        needIndex(index, asked.pieceCount);
        return asked.pieceAt(index);
    }

    public int kind(int kind, int what)
            throws IllegalStateException, IndexOutOfBoundsException, IllegalArgumentException {
        needChase();
        needKind(kind);
        switch (what) {
            case 0: return plan.metal[kind] ? 1 : 0;
            case 1: return plan.lengths[kind];
            case 2: return now.left[kind];
            case 3: return now.inRows(kind);
            default: throw new IllegalArgumentException("there is no such property of a kind");
        }
    }

    public int kindOf(boolean metal, int length) throws IllegalStateException {
        needChase();
        return plan.find(metal, length);
    }

    public boolean isTight(int row) throws IllegalStateException, IndexOutOfBoundsException {
        return needRow(row).isTightIn(plan);
    }

    // ---- looks

    public int widestGap() throws IllegalStateException {
        needChase();
        int widest = 0;
        for (int r = 1; r < plan.rows; r++) {
            if (now.rows[r].gapIn(plan) > now.rows[widest].gapIn(plan)) {
                widest = r;
            }
        }
        return widest;
    }

    public int loosest() throws IllegalStateException {
        needChase();
        int found = NONE;
        int most = NONE;
        for (int r = 0; r < plan.rows; r++) {
            Row looked = now.rows[r];
            if (looked.blockCount > 0 && looked.loosenessIn(plan) > most) {
                found = r;
                most = looked.loosenessIn(plan);
            }
        }
        return found;
    }

    public int longestLeft() throws IllegalStateException {
        needChase();
        for (int p = 0; p < plan.kinds; p++) {
            int kind = plan.order[p];
            if (now.left[kind] > 0) {
                return kind;
            }
        }
        return NONE;
    }

    public int lengthLeft() throws IllegalStateException {
        needChase();
        int sum = 0;
        for (int k = 0; k < plan.kinds; k++) {
            sum += now.left[k] * plan.lengths[k];
        }
        return sum;
    }

    public double meanGap() throws IllegalStateException {
        needChase();
        int sum = 0;
        for (int r = 0; r < plan.rows; r++) {
            sum += now.rows[r].gapIn(plan);
        }
        return plan.rows == 0 ? 0.0 : (double) sum / (double) plan.rows;
    }

    public float woodShare() throws IllegalStateException {
        needChase();
        int wood = 0;
        for (int r = 0; r < plan.rows; r++) {
            wood += now.rows[r].woodIn(plan);
        }
        return share(wood, now.piecesInRows());
    }

    public float goodShare() throws IllegalStateException {
        needChase();
        return share(now.goodOnes, now.impressions);
    }

    private static float share(int part, int whole) {
        return whole == 0 ? 0.0f : (float) part / (float) whole;
    }

    // ---- the choice, and what would be (nothing is changed)

    public int choice(int row, int what)
            throws IllegalStateException, IndexOutOfBoundsException, IllegalArgumentException {
        Row asked = needRow(row);
        if (what < 0 || what > 3) {
            throw new IllegalArgumentException("there is no such part of a choice");
        }
        if (!solve(now, asked)) {
            return NONE;
        }
        switch (what) {
            case 0: return solver.pieces;
            case 1: return solver.opening;
            case 2: return solver.sum;
            default: return solver.woodTaken(plan);
        }
    }

    public int chosen(int row, int kind) throws IllegalStateException, IndexOutOfBoundsException {
        Row asked = needRow(row);
        needKind(kind);
        return solve(now, asked) ? solver.taken[kind] : NONE;
    }

    public int ways(int row) throws IllegalStateException, IndexOutOfBoundsException {
        Row asked = needRow(row);
        solver.stockFrom(now);
        return solver.countWays(plan, asked.roomIn(plan), now.canHaveQuoin(asked));
    }

    public int nearest(int row) throws IllegalStateException, IndexOutOfBoundsException {
        Row asked = needRow(row);
        int room = asked.roomIn(plan) - (asked.hasQuoin() ? plan.quoinLength : 0);
        int openable = asked.hasQuoin() ? plan.span : 0;
        solver.stockFrom(now);
        solver.study(plan);
        // the longest pieces leave the least gap, as an opening takes up what it can of the rest
        for (int length = room; length > 0; length--) {
            if (solver.canMake(length)) {
                return Math.max(0, room - length - openable);
            }
        }
        return Math.max(0, room - openable);
    }

    public int fewestAt(int row, int length)
            throws IllegalStateException, IndexOutOfBoundsException, IllegalArgumentException {
        Row asked = needRow(row);
        needBlockLength(length);
        solver.stockFrom(now);
        solver.study(plan);
        return fewestWith(asked, length);
    }

    public int rowFor(int length) throws IllegalStateException, IllegalArgumentException {
        needChase();
        needBlockLength(length);
        solver.stockFrom(now);
        solver.study(plan);
        int found = NONE;
        int least = NEVER;
        for (int r = 0; r < plan.rows; r++) {
            int fewest = fewestWith(now.rows[r], length);
            if (fewest != NONE && fewest < least) {
                found = r;
                least = fewest;
            }
        }
        return found;
    }

    /** The solver must have studied the stock. */
    private int fewestWith(Row asked, int length) {
        if (!asked.takesBlock(plan, length)) {
            return NONE;
        }
        boolean isFilled = solver.choose(plan, asked.roomIn(plan) - length, now.canHaveQuoin(asked));
        return isFilled ? solver.pieces : NONE;
    }

    public int missing(int row) throws IllegalStateException, IndexOutOfBoundsException {
        Row asked = needRow(row);
        if (solve(now, asked)) {
            return NONE;
        }
        return solver.findMissing(plan, asked.roomIn(plan), now.canHaveQuoin(asked));
    }

    public boolean canPut(int row, int kind) throws IllegalStateException, IndexOutOfBoundsException {
        Row asked = needRow(row);
        needKind(kind);
        return takesPiece(asked, kind);
    }

    private boolean takesPiece(Row asked, int kind) {
        return now.left[kind] > 0 && plan.lengths[kind] <= asked.gapIn(plan);
    }

    public int freshChoice(int row) throws IllegalStateException, IndexOutOfBoundsException {
        needRow(row);
        spare.copyFrom(now);
        spare.empty(row);
        return solve(spare, spare.rows[row]) ? solver.pieces : NONE;
    }

    public int fillable(int most) throws IllegalStateException, IllegalArgumentException {
        needChase();
        if (most < 0 || most > plan.size) {
            throw new IllegalArgumentException("the greatest length is out of range");
        }
        solver.stockFrom(now);
        solver.study(plan);
        int many = 0;
        for (int length = 0; length <= most; length++) {
            if (solver.canMake(length)) {
                many++;
            }
        }
        return many;
    }

    public int fallsIn(int row, boolean days) throws IllegalStateException, IndexOutOfBoundsException {
        Row asked = needRow(row);
        if (asked.blockCount == 0) {
            return NONE;
        }
        int growth = days ? asked.growthInDay(plan) : asked.growthInImpression(plan);
        int looseness = asked.loosenessIn(plan);
        for (int turn = 1; turn <= MOST_TURNS_AHEAD; turn++) {
            looseness += growth;
            if (looseness > plan.hold) {
                return turn;
            }
        }
        return NONE;
    }

    public int goodIn(int impressions) throws IllegalStateException, IllegalArgumentException {
        needChase();
        if (impressions < 0 || impressions > MOST_TURNS_AHEAD) {
            throw new IllegalArgumentException("the number of impressions is out of range");
        }
        spare.copyFrom(now);
        return spare.impressOften(plan, impressions);
    }

    public int lockable() throws IllegalStateException {
        needChase();
        solver.stockFrom(now);
        solver.study(plan);
        int set = 0;
        for (int r = 0; r < plan.rows; r++) {
            Row looked = now.rows[r];
            if (solver.choose(plan, looked.roomIn(plan), now.canHaveQuoin(looked))) {
                set |= 1 << r;
            }
        }
        return set;
    }

    public int lockedAll() throws IllegalStateException {
        needChase();
        spare.copyFrom(now);
        for (int r = 0; r < plan.rows; r++) {
            if (solve(spare, spare.rows[r])) {
                spare.fill(plan, r, solver);
            }
        }
        return spare.tightRows(plan);
    }

    /** Makes the solver hold the choice for a row of a state; false if it has no filling. */
    private boolean solve(State state, Row asked) {
        solver.stockFrom(state);
        solver.study(plan);
        return solver.choose(plan, asked.roomIn(plan), state.canHaveQuoin(asked));
    }

    // ---- texts

    public int writeRow(int row) throws IllegalStateException, IndexOutOfBoundsException {
        Row asked = needRow(row);
        text.setLength(0);
        for (int i = 0; i < asked.blockCount; i++) {
            writeGapBefore();
            text.append('[');
            text.append(asked.blockAt(i));
            text.append(']');
        }
        for (int i = 0; i < asked.pieceCount; i++) {
            writeGapBefore();
            writeKind(asked.pieceAt(i));
        }
        if (asked.hasQuoin()) {
            writeOpening(asked.opening);
        }
        return text.length();
    }

    public int writeChoice(int row) throws IllegalStateException, IndexOutOfBoundsException {
        Row asked = needRow(row);
        text.setLength(0);
        if (!solve(now, asked)) {
            text.append('-');
            return text.length();
        }
        for (int p = 0; p < plan.kinds; p++) {
            int kind = plan.order[p];
            if (solver.taken[kind] > 0) {
                writeGapBefore();
                text.append(solver.taken[kind]);
                text.append('x');
                writeKind(kind);
            }
        }
        if (solver.opening != NONE) {
            writeOpening(solver.opening);
        }
        return text.length();
    }

    public int writeStock() throws IllegalStateException {
        needChase();
        text.setLength(0);
        for (int k = 0; k < plan.kinds; k++) {
            if (k > 0) {
                text.append(',');
            }
            writeKind(k);
            text.append(':');
            text.append(now.left[k]);
        }
        return text.length();
    }

    public int textByte(int i) throws IndexOutOfBoundsException {
        needIndex(i, text.length());
        return text.charAt(i);
    }

    private void writeGapBefore() {
        if (text.length() > 0) {
            text.append(' ');
        }
    }

    private void writeKind(int kind) {
        if (kind >= 0 && kind < plan.kinds) {
            text.append(plan.metal[kind] ? 'm' : 'w');
            text.append(plan.lengths[kind]);
        }
    }

    private void writeOpening(int opening) {
        writeGapBefore();
        text.append('q');
        text.append(opening);
    }

    // ---- changes (each can be undone, the latest one first)

    public int place(int row, int length)
            throws IllegalStateException, IndexOutOfBoundsException, IllegalArgumentException {
        Row changed = needRow(row);
        needBlockLength(length);
        if (!changed.takesBlock(plan, length)) {
            throw new IllegalArgumentException("the block does not go in");
        }
        history.remember(now);
        changed.addBlock(length);
        return changed.gapIn(plan);
    }

    public int lift(int row, int index) throws IllegalStateException, IndexOutOfBoundsException {
        Row changed = needRow(row);
        needIndex(index, changed.blockCount);
        history.remember(now);
        return changed.removeBlock(index);
    }

    public int put(int row, int kind)
            throws IllegalStateException, IndexOutOfBoundsException, IllegalArgumentException {
        Row changed = needRow(row);
        needKind(kind);
        if (!takesPiece(changed, kind)) {
            throw new IllegalArgumentException("the piece does not go in");
        }
        history.remember(now);
        now.movePieceIn(plan, changed, kind);
        return changed.gapIn(plan);
    }

    public int take(int row, int index) throws IllegalStateException, IndexOutOfBoundsException {
        Row changed = needRow(row);
        needIndex(index, changed.pieceCount);
        history.remember(now);
        return now.movePieceOut(plan, changed, index);
    }

    public int quoin(int row, boolean is)
            throws IllegalStateException, IndexOutOfBoundsException, IllegalArgumentException {
        Row changed = needRow(row);
        if (changed.hasQuoin() == is) {
            throw new IllegalArgumentException("it is so already");
        }
        if (is && (now.quoins == 0 || plan.quoinLength > changed.gapIn(plan))) {
            throw new IllegalArgumentException("the quoin does not go in");
        }
        history.remember(now);
        if (is) {
            now.setQuoin(changed, 0);
        } else {
            now.removeQuoin(changed);
        }
        return changed.gapIn(plan);
    }

    public int open(int row, int opening)
            throws IllegalStateException, IndexOutOfBoundsException, IllegalArgumentException {
        Row changed = needRow(row);
        if (!changed.hasQuoin() || opening < 0 || opening > plan.span) {
            throw new IllegalArgumentException("there is no quoin, or it can't be opened so");
        }
        if (plan.quoinLength + opening > changed.roomIn(plan)) {
            throw new IllegalArgumentException("the quoin would be too long");
        }
        history.remember(now);
        now.setQuoin(changed, opening);
        return changed.gapIn(plan);
    }

    public int lock(int row) throws IllegalStateException, IndexOutOfBoundsException, IllegalArgumentException {
        Row changed = needRow(row);
        if (!solve(now, changed)) {
            throw new IllegalArgumentException("there is no filling");
        }
        history.remember(now);
        now.fill(plan, row, solver);
        return solver.pieces;
    }

    public int unlock(int row) throws IllegalStateException, IndexOutOfBoundsException {
        Row changed = needRow(row);
        int many = changed.pieceCount;
        history.remember(now);
        now.empty(row);
        return many;
    }

    public int relock(int row) throws IllegalStateException, IndexOutOfBoundsException, IllegalArgumentException {
        needRow(row);
        spare.copyFrom(now);
        spare.empty(row);
        if (!solve(spare, spare.rows[row])) {
            throw new IllegalArgumentException("there is no filling");
        }
        history.remember(now);
        now.empty(row);
        now.fill(plan, row, solver);
        return solver.pieces;
    }

    public int tighten(int row) throws IllegalStateException, IndexOutOfBoundsException, IllegalArgumentException {
        Row changed = needRow(row);
        if (!changed.hasQuoin()) {
            throw new IllegalArgumentException("the row has no quoin");
        }
        history.remember(now);
        while (changed.opening < plan.span && changed.slack > 0) {
            changed.opening++;
            changed.takeUp++;
            changed.slack = Math.max(0, changed.slack - SLACK_OF_ONE);
        }
        return changed.slack;
    }

    public int print(int impressions) throws IllegalStateException, IllegalArgumentException {
        needChase();
        needTurns(impressions);
        history.remember(now);
        return now.impressOften(plan, impressions);
    }

    public int rest(int days) throws IllegalStateException, IllegalArgumentException {
        needChase();
        needTurns(days);
        history.remember(now);
        int fell = 0;
        for (int day = 0; day < days; day++) {
            fell += now.passDay(plan);
        }
        return fell;
    }

    public int buy(int kind, int many)
            throws IllegalStateException, IndexOutOfBoundsException, IllegalArgumentException {
        needChase();
        needKind(kind);
        if (many < 1 || many > MOST_LEFT || now.left[kind] > MOST_LEFT - many) {
            throw new IllegalArgumentException("so many can't be bought");
        }
        history.remember(now);
        now.left[kind] += many;
        return now.left[kind];
    }

    public int undo() throws IllegalStateException {
        if (history.many == 0) {
            throw new IllegalStateException("there is no change to undo");
        }
        history.bringBack(now);
        return history.many;
    }

    public int undoable() {
        return history.many;
    }

    public int save(int slot) throws IllegalStateException, IndexOutOfBoundsException {
        needChase();
        needIndex(slot, SLOTS);
        saves[slot].copyFrom(now);
        isSaved[slot] = true;
        return now.impressions;
    }

    public int restore(int slot) throws IndexOutOfBoundsException, IllegalStateException {
        needIndex(slot, SLOTS);
        if (!isSaved[slot]) {
            throw new IllegalStateException("nothing is saved there");
        }
        now.copyFrom(saves[slot]);
        history.clear();
        return now.impressions;
    }

    // ---- what the methods need of their arguments

    private void needChase() {
        if (!loaded) {
            throw new IllegalStateException("no text was loaded");
        }
    }

    private Row needRow(int row) {
        needChase();
        if (row < 0 || row >= plan.rows || row >= MOST_ROWS) {
            throw new IndexOutOfBoundsException("there is no such row");
        }
        return now.rows[row];
    }

    private void needKind(int kind) {
        if (kind < 0 || kind >= plan.kinds || kind >= MOST_KINDS) {
            throw new IndexOutOfBoundsException("there is no such kind");
        }
    }

    private static void needIndex(int index, int many) {
        if (index < 0 || index >= many) {
            throw new IndexOutOfBoundsException("there is no such index");
        }
    }

    private static void needBlockLength(int length) {
        if (length < 1 || length > LONGEST_BLOCK) {
            throw new IllegalArgumentException("the length is out of range");
        }
    }

    private static void needTurns(int turns) {
        if (turns < 1 || turns > MOST_TURNS) {
            throw new IllegalArgumentException("so many can't be made");
        }
    }

    /** What a text tells for good: the settings and the kinds. */
    private static final class Plan {
        int size;
        int rows;
        int quoinLength;
        int span;
        int shake;
        int dry;
        int hold;
        int kinds;
        final boolean[] metal = new boolean[MOST_KINDS];
        final int[] lengths = new int[MOST_KINDS];
        /** The kinds by length, the longest first, of the same length metal first. */
        final int[] order = new int[MOST_KINDS];

        int find(boolean isMetal, int length) {
            for (int k = 0; k < kinds; k++) {
                if (metal[k] == isMetal && lengths[k] == length) {
                    return k;
                }
            }
            return NONE;
        }

        void addKind(boolean isMetal, int length) {
            if (kinds >= MOST_KINDS) {
                return;
            }
            metal[kinds] = isMetal;
            lengths[kinds] = length;
            int place = kinds;
            while (place > 0 && isAhead(kinds, order[place - 1])) {
                order[place] = order[place - 1];
                place--;
            }
            order[place] = kinds;
            kinds++;
        }

        private boolean isAhead(int a, int b) {
            return lengths[a] > lengths[b] || lengths[a] == lengths[b] && metal[a] && !metal[b];
        }
    }

    /** What stands in one row of the chase. */
    private static final class Row {
        /** A kind takes four bits, so sixteen pieces go into one long: states are copied often. */
        private static final int BITS_OF_PIECE = 4;
        private static final int PIECES_IN_WORD = 16;
        private static final int WORDS = 32;
        private static final int MOST_PIECES = WORDS * PIECES_IN_WORD;

        final int[] blocks = new int[MOST_BLOCKS];
        int blockCount;
        int blockSum;
        final long[] pieceWords = new long[WORDS];
        int pieceCount;
        int pieceSum;
        final int[] ofKind = new int[MOST_KINDS];
        int opening = NONE;
        int takeUp;
        int slack;

        void clear() {
            dropBlocks();
            dropPieces();
            opening = NONE;
            takeUp = 0;
            slack = 0;
        }

        void copyFrom(Row other) {
            System.arraycopy(other.blocks, 0, blocks, 0, MOST_BLOCKS);
            blockCount = other.blockCount;
            blockSum = other.blockSum;
            System.arraycopy(other.pieceWords, 0, pieceWords, 0, WORDS);
            pieceCount = other.pieceCount;
            pieceSum = other.pieceSum;
            System.arraycopy(other.ofKind, 0, ofKind, 0, MOST_KINDS);
            opening = other.opening;
            takeUp = other.takeUp;
            slack = other.slack;
        }

        boolean hasQuoin() {
            return opening != NONE;
        }

        /** What is left of the chase for more pieces and for the whole of the quoin. */
        int roomIn(Plan plan) {
            return plan.size - blockSum - pieceSum;
        }

        int gapIn(Plan plan) {
            return roomIn(plan) - (hasQuoin() ? plan.quoinLength + opening - takeUp : 0);
        }

        boolean isTightIn(Plan plan) {
            return gapIn(plan) == 0 && slack == 0;
        }

        int loosenessIn(Plan plan) {
            return slack + SLACK_OF_ONE * gapIn(plan);
        }

        boolean isFirmIn(Plan plan) {
            return gapIn(plan) == 0 && slack < SLACK_OF_ONE;
        }

        int growthInImpression(Plan plan) {
            return plan.shake * blockCount;
        }

        int growthInDay(Plan plan) {
            return plan.dry * woodIn(plan);
        }

        int woodIn(Plan plan) {
            int wood = 0;
            for (int k = 0; k < plan.kinds; k++) {
                if (!plan.metal[k]) {
                    wood += ofKind[k];
                }
            }
            return wood;
        }

        boolean takesBlock(Plan plan, int length) {
            return blockCount < MOST_BLOCKS && length <= gapIn(plan);
        }

        int blockAt(int index) {
            return index >= 0 && index < blockCount && index < MOST_BLOCKS ? blocks[index] : NONE;
        }

        void addBlock(int length) {
            if (blockCount < MOST_BLOCKS) {
                blocks[blockCount] = length;
                blockCount++;
                blockSum += length;
            }
        }

        int removeBlock(int index) {
            int length = blockAt(index);
            if (length == NONE) {
                return NONE;
            }
            for (int i = index + 1; i < blockCount; i++) {
                blocks[i - 1] = blocks[i];
            }
            blockCount--;
            blockSum -= length;
            return length;
        }

        void dropBlocks() {
            blockCount = 0;
            blockSum = 0;
        }

        int pieceAt(int index) {
            if (index < 0 || index >= pieceCount || index >= MOST_PIECES) {
                return NONE;
            }
            int shift = index % PIECES_IN_WORD * BITS_OF_PIECE;
            return (int) (pieceWords[index / PIECES_IN_WORD] >>> shift) & 15;
        }

        private void setPiece(int index, int kind) {
            if (index >= 0 && index < MOST_PIECES) {
                int shift = index % PIECES_IN_WORD * BITS_OF_PIECE;
                long others = pieceWords[index / PIECES_IN_WORD] & ~(15L << shift);
                pieceWords[index / PIECES_IN_WORD] = others | (long) kind << shift;
            }
        }

        void addPiece(Plan plan, int kind) {
            if (kind >= 0 && kind < MOST_KINDS && pieceCount < MOST_PIECES) {
                setPiece(pieceCount, kind);
                pieceCount++;
                pieceSum += plan.lengths[kind];
                ofKind[kind]++;
            }
        }

        int removePiece(Plan plan, int index) {
            int kind = pieceAt(index);
            if (kind < 0 || kind >= MOST_KINDS) {
                return NONE;
            }
            for (int i = index + 1; i < pieceCount; i++) {
                setPiece(i - 1, pieceAt(i));
            }
            pieceCount--;
            pieceSum -= plan.lengths[kind];
            ofKind[kind]--;
            return kind;
        }

        void dropPieces() {
            pieceCount = 0;
            pieceSum = 0;
            for (int k = 0; k < MOST_KINDS; k++) {
                ofKind[k] = 0;
            }
        }
    }

    /**
     * All of a chase that changes: its rows, its stock and what was counted since the load. The rows that the chase
     * does not have are empty, so they count for nothing: their gap is LONG, and they never fall.
     */
    private static final class State {
        final Row[] rows = new Row[MOST_ROWS];
        final int[] left = new int[MOST_KINDS];
        int quoins;
        int impressions;
        int goodOnes;
        int days;
        int pied;
        int fallen;

        State() {
            for (int r = 0; r < MOST_ROWS; r++) {
                rows[r] = new Row();
            }
        }

        void clear() {
            for (int r = 0; r < MOST_ROWS; r++) {
                rows[r].clear();
            }
            for (int k = 0; k < MOST_KINDS; k++) {
                left[k] = 0;
            }
            quoins = 0;
            impressions = 0;
            goodOnes = 0;
            days = 0;
            pied = 0;
            fallen = 0;
        }

        void copyFrom(State other) {
            for (int r = 0; r < MOST_ROWS; r++) {
                rows[r].copyFrom(other.rows[r]);
            }
            System.arraycopy(other.left, 0, left, 0, MOST_KINDS);
            quoins = other.quoins;
            impressions = other.impressions;
            goodOnes = other.goodOnes;
            days = other.days;
            pied = other.pied;
            fallen = other.fallen;
        }

        int blocksInRows() {
            int many = 0;
            for (int r = 0; r < MOST_ROWS; r++) {
                many += rows[r].blockCount;
            }
            return many;
        }

        int piecesInRows() {
            int many = 0;
            for (int r = 0; r < MOST_ROWS; r++) {
                many += rows[r].pieceCount;
            }
            return many;
        }

        int inRows(int kind) {
            int many = 0;
            for (int r = 0; r < MOST_ROWS && kind >= 0 && kind < MOST_KINDS; r++) {
                many += rows[r].ofKind[kind];
            }
            return many;
        }

        int piecesLeft() {
            int many = 0;
            for (int k = 0; k < MOST_KINDS; k++) {
                many += left[k];
            }
            return many;
        }

        int tightRows(Plan plan) {
            int many = 0;
            for (int r = 0; r < MOST_ROWS; r++) {
                if (rows[r].isTightIn(plan)) {
                    many++;
                }
            }
            return many;
        }

        boolean canHaveQuoin(Row asked) {
            return asked.hasQuoin() || quoins > 0;
        }

        void setQuoin(Row changed, int opening) {
            if (!changed.hasQuoin()) {
                quoins--;
            }
            changed.opening = opening;
            changed.takeUp = 0;
        }

        void removeQuoin(Row changed) {
            if (changed.hasQuoin()) {
                quoins++;
            }
            changed.opening = NONE;
            changed.takeUp = 0;
        }

        void movePieceIn(Plan plan, Row changed, int kind) {
            if (kind >= 0 && kind < MOST_KINDS) {
                left[kind]--;
                changed.addPiece(plan, kind);
            }
        }

        int movePieceOut(Plan plan, Row changed, int index) {
            int kind = changed.removePiece(plan, index);
            if (kind >= 0 && kind < MOST_KINDS) {
                left[kind]++;
            }
            return kind;
        }

        /** Puts the choice that the solver holds into a row. */
        void fill(Plan plan, int row, Solver solver) {
            if (row < 0 || row >= MOST_ROWS) {
                return;
            }
            Row changed = rows[row];
            for (int p = 0; p < plan.kinds; p++) {
                int kind = plan.order[p];
                for (int i = 0; i < solver.taken[kind]; i++) {
                    movePieceIn(plan, changed, kind);
                }
            }
            if (solver.opening != NONE) {
                setQuoin(changed, solver.opening);
            }
            changed.slack = 0;
        }

        /** Brings the pieces and the quoin of a row back to the stock. */
        void empty(int row) {
            if (row < 0 || row >= MOST_ROWS) {
                return;
            }
            Row changed = rows[row];
            for (int k = 0; k < MOST_KINDS; k++) {
                left[k] += changed.ofKind[k];
            }
            changed.dropPieces();
            removeQuoin(changed);
            changed.slack = 0;
        }

        /** Returns how many of the impressions are good. */
        int impressOften(Plan plan, int many) {
            int before = goodOnes;
            for (int i = 0; i < many; i++) {
                impress(plan);
            }
            return goodOnes - before;
        }

        private void impress(Plan plan) {
            for (int r = 0; r < MOST_ROWS; r++) {
                rows[r].slack += rows[r].growthInImpression(plan);
            }
            int fell = dropLooseRows(plan);
            impressions++;
            if (fell == 0 && isFirm(plan)) {
                goodOnes++;
            }
        }

        /** Returns how many rows fell. */
        int passDay(Plan plan) {
            for (int r = 0; r < MOST_ROWS; r++) {
                rows[r].slack += rows[r].growthInDay(plan);
            }
            days++;
            return dropLooseRows(plan);
        }

        private int dropLooseRows(Plan plan) {
            int fell = 0;
            for (int r = 0; r < MOST_ROWS; r++) {
                if (rows[r].blockCount > 0 && rows[r].loosenessIn(plan) > plan.hold) {
                    pied += rows[r].blockCount;
                    rows[r].dropBlocks();
                    empty(r);
                    fell++;
                }
            }
            fallen += fell;
            return fell;
        }

        private boolean isFirm(Plan plan) {
            for (int r = 0; r < MOST_ROWS; r++) {
                if (rows[r].blockCount > 0 && !rows[r].isFirmIn(plan)) {
                    return false;
                }
            }
            return true;
        }
    }

    /** The states before the latest changes, in a ring. */
    private static final class History {
        private final State[] ring = new State[MOST_UNDO];
        private int next;
        int many;

        History() {
            for (int i = 0; i < MOST_UNDO; i++) {
                ring[i] = new State();
            }
        }

        void clear() {
            many = 0;
        }

        void remember(State state) {
            ring[next].copyFrom(state);
            next = (next + 1) % MOST_UNDO;
            many = Math.min(many + 1, MOST_UNDO);
        }

        void bringBack(State state) {
            if (many > 0) {
                next = (next + MOST_UNDO - 1) % MOST_UNDO;
                state.copyFrom(ring[next]);
                many--;
            }
        }
    }

    /** Finds the choice for a room among the pieces of a stock, and counts the fillings. */
    private static final class Solver {
        /** By place p in the order and length: the fewest pieces of the kinds from place p on that make it. */
        private final int[][] fewest = new int[MOST_KINDS + 1][MOST_LONG + 1];
        private final int[] ways = new int[MOST_LONG + 1];
        private final int[] waysBefore = new int[MOST_LONG + 1];
        private final int[] stock = new int[MOST_KINDS];
        /** The choice found last: how many of each kind, how many in all, their length, the opening. */
        final int[] taken = new int[MOST_KINDS];
        int pieces;
        int sum;
        int opening;

        void stockFrom(State state) {
            System.arraycopy(state.left, 0, stock, 0, MOST_KINDS);
        }

        void study(Plan plan) {
            int[] none = fewest[plan.kinds];
            none[0] = 0;
            for (int length = 1; length <= MOST_LONG; length++) {
                none[length] = NEVER;
            }
            studyFrom(plan, plan.kinds - 1);
        }

        /** Studies the kinds at this place of the order and ahead of it; those behind must be studied already. */
        private void studyFrom(Plan plan, int place) {
            for (int p = place; p >= 0; p--) {
                int kind = plan.order[p];
                System.arraycopy(fewest[p + 1], 0, fewest[p], 0, MOST_LONG + 1);
                addKind(fewest[p], plan.size, plan.lengths[kind], stock[kind]);
            }
        }

        /** Adds the pieces in bundles of 1, 2, 4.. and what remains: some of these bundles make any number. */
        private static void addKind(int[] few, int size, int length, int many) {
            if (length < 1) {
                return;
            }
            int rest = Math.min(many, size / length);
            for (int bundle = 1; rest > 0 && bundle <= MOST_LONG; bundle *= 2) {
                int used = Math.min(bundle, rest);
                addBundle(few, size, length * used, used);
                rest -= used;
            }
        }

        private static void addBundle(int[] few, int size, int length, int used) {
            for (int whole = Math.min(size, few.length - 1); whole >= length; whole--) {
                int with = few[whole - length] + used;
                if (with < few[whole]) {
                    few[whole] = with;
                }
            }
        }

        boolean canMake(int length) {
            return length >= 0 && length <= MOST_LONG && fewest[0][length] < NEVER;
        }

        /** Finds the choice for a room; false if it has no filling. The stock must be studied. */
        boolean choose(Plan plan, int room, boolean withQuoin) {
            pieces = NEVER;
            if (withQuoin) {
                for (int o = 0; o <= plan.span; o++) {
                    chooseIfFewer(room - plan.quoinLength - o, o);
                }
            } else {
                chooseIfFewer(room, NONE);
            }
            if (pieces == NEVER) {
                return false;
            }
            takeLongestFirst(plan);
            return true;
        }

        private void chooseIfFewer(int length, int itsOpening) {
            if (canMake(length) && fewest[0][length] < pieces) {
                pieces = fewest[0][length];
                sum = length;
                opening = itsOpening;
            }
        }

        private void takeLongestFirst(Plan plan) {
            int rest = sum;
            for (int p = 0; p < plan.kinds; p++) {
                int kind = plan.order[p];
                taken[kind] = mostAt(p, rest, plan.lengths[kind], stock[kind]);
                rest -= taken[kind] * plan.lengths[kind];
            }
        }

        /** The most pieces of the kind at a place with which a length still takes the fewest pieces. */
        private int mostAt(int place, int whole, int length, int many) {
            if (length < 1 || whole < 0 || whole > MOST_LONG) {
                return 0;
            }
            for (int n = Math.min(many, whole / length); n > 0; n--) {
                if (fewest[place + 1][whole - n * length] + n == fewest[place][whole]) {
                    return n;
                }
            }
            return 0;
        }

        int woodTaken(Plan plan) {
            int wood = 0;
            for (int k = 0; k < plan.kinds; k++) {
                if (!plan.metal[k]) {
                    wood += taken[k];
                }
            }
            return wood;
        }

        /** Finds the kind of which one more would give a filling. The stock must be studied. */
        int findMissing(Plan plan, int room, boolean withQuoin) {
            for (int p = 0; p < plan.kinds; p++) {
                int kind = plan.order[p];
                stock[kind]++;
                studyFrom(plan, p);
                boolean isFilled = choose(plan, room, withQuoin);
                stock[kind]--;
                if (isFilled) {
                    return kind;
                }
            }
            return NONE;
        }

        int countWays(Plan plan, int room, boolean withQuoin) {
            studyWays(plan);
            if (!withQuoin) {
                return waysOf(room);
            }
            int many = 0;
            for (int o = 0; o <= plan.span; o++) {
                many = (many + waysOf(room - plan.quoinLength - o)) % WAYS_MODULUS;
            }
            return many;
        }

        private int waysOf(int length) {
            return length >= 0 && length <= MOST_LONG ? ways[length] : 0;
        }

        private void studyWays(Plan plan) {
            for (int length = 0; length <= MOST_LONG; length++) {
                ways[length] = length == 0 ? 1 : 0;
            }
            for (int k = 0; k < plan.kinds; k++) {
                System.arraycopy(ways, 0, waysBefore, 0, MOST_LONG + 1);
                addWays(plan.lengths[k], stock[k]);
            }
        }

        /** As many ways as with a piece less in all, and those without one, but not those with one too many. */
        private void addWays(int length, int many) {
            int tooLong = length * (many + 1);
            if (length < 1 || tooLong < 1) {
                return;
            }
            for (int whole = length; whole <= MOST_LONG; whole++) {
                int sumOfWays = ways[whole - length] + waysBefore[whole];
                if (whole >= tooLong) {
                    sumOfWays += WAYS_MODULUS - waysBefore[whole - tooLong];
                }
                ways[whole] = sumOfWays % WAYS_MODULUS;
            }
        }
    }

    /** The input buffer, and what reads a chase from its first bytes, token by token. */
    private static final class Reader {
        private static final int END = 0;
        private static final int WORD = 1;
        private static final int NUMBER = 2;
        private static final int SEMICOLON = 3;
        private static final int NO_TOKEN = 4;
        private static final int MOST_LETTERS = 6;
        private static final int MOST_DIGITS = 3;

        private final int[] bytes = new int[MOST_BYTES];
        private final boolean[] isRowTold = new boolean[MOST_ROWS];
        int inBuffer;
        /** The error of the latest text, 0 without one, and the index of its token. */
        int errorCode;
        int errorPlace = NONE;
        private int size;
        /** The token that is looked at: its sort, its first byte, the byte behind it. */
        private int token;
        private int start;
        private int behind;

        boolean addBytes(int a, int b, int c, int d, int e) {
            if (inBuffer > MOST_BYTES - BYTES_APPENDED) {
                return false;
            }
            addWord(a);
            addWord(b);
            addWord(c);
            addWord(d);
            addWord(e);
            return true;
        }

        private void addWord(int word) {
            for (int shift = 24; shift >= 0 && inBuffer < MOST_BYTES; shift -= 8) {
                bytes[inBuffer] = (word >>> shift) & 255;
                inBuffer++;
            }
        }

        /** Reads the first n bytes into a plan and a state, and empties the buffer; false if there is an error. */
        boolean readText(int n, Plan plan, State state) {
            startText(n);
            plan.kinds = 0;
            state.clear();
            readHead(plan, state);
            for (int line = 0; line < MOST_BYTES && errorCode == 0 && token == SEMICOLON; line++) {
                advance();
                readLine(plan, state);
            }
            if (token != END) {
                fail(1, start);
            }
            return errorCode == 0;
        }

        private void startText(int n) {
            size = Math.min(n, inBuffer);
            inBuffer = 0;
            errorCode = 0;
            errorPlace = NONE;
            behind = 0;
            for (int r = 0; r < MOST_ROWS; r++) {
                isRowTold[r] = false;
            }
            advance();
        }

        private void readHead(Plan plan, State state) {
            takeWord("chase");
            plan.size = takeNumber(10, MOST_LONG);
            plan.rows = takeNumber(1, MOST_ROWS);
            plan.quoinLength = takeNumber(1, 50);
            plan.span = takeNumber(0, 20);
            state.quoins = takeNumber(0, 20);
            takeSemicolon();
            takeWord("rules");
            plan.shake = takeNumber(0, 9);
            plan.dry = takeNumber(0, 9);
            plan.hold = takeNumber(1, 999);
        }

        private void readLine(Plan plan, State state) {
            if (isWord("wood")) {
                readKind(false, plan, state);
            } else if (isWord("metal")) {
                readKind(true, plan, state);
            } else {
                takeWord("row");
                readRow(plan, state);
            }
        }

        private void readKind(boolean isMetal, Plan plan, State state) {
            if (plan.kinds >= MOST_KINDS) {
                fail(4, start);
                return;
            }
            advance();
            int place = start;
            int length = takeNumber(1, LONGEST_PIECE);
            if (plan.find(isMetal, length) != NONE) {
                fail(3, place);
            }
            int many = takeNumber(0, MOST_LEFT);
            if (errorCode == 0) {
                state.left[plan.kinds] = many;
                plan.addKind(isMetal, length);
            }
        }

        private void readRow(Plan plan, State state) {
            int place = start;
            int row = takeNumber(0, plan.rows - 1);
            if (row < 0 || row >= MOST_ROWS) {
                return;
            }
            if (isRowTold[row]) {
                fail(3, place);
            }
            isRowTold[row] = true;
            Row told = state.rows[row];
            for (int i = 0; i <= MOST_BLOCKS && errorCode == 0 && token == NUMBER; i++) {
                place = start;
                int length = takeNumber(1, LONGEST_BLOCK);
                if (told.blockCount >= MOST_BLOCKS) {
                    fail(4, place);
                }
                if (length > told.gapIn(plan)) {
                    fail(5, place);
                }
                if (errorCode == 0) {
                    told.addBlock(length);
                }
            }
        }

        /** The first error counts; behind it nothing is taken any more. */
        private void fail(int code, int place) {
            if (errorCode == 0) {
                errorCode = code;
                errorPlace = place;
            }
        }

        private void takeWord(String word) {
            if (!isWord(word)) {
                fail(1, start);
            }
            if (errorCode == 0) {
                advance();
            }
        }

        private void takeSemicolon() {
            if (token != SEMICOLON) {
                fail(1, start);
            }
            if (errorCode == 0) {
                advance();
            }
        }

        /** Returns NONE if there is an error here or was one before. */
        private int takeNumber(int least, int most) {
            if (token != NUMBER) {
                fail(1, start);
            }
            if (errorCode != 0) {
                return NONE;
            }
            int number = numberHere();
            if (number < least || number > most) {
                fail(2, start);
                return NONE;
            }
            advance();
            return number;
        }

        private boolean isWord(String word) {
            if (token != WORD || behind - start != word.length()) {
                return false;
            }
            for (int i = 0; i < word.length() && start + i < size; i++) {
                if (bytes[start + i] != word.charAt(i)) {
                    return false;
                }
            }
            return true;
        }

        /** Looks at the next token; whether it is allowed there is told by what takes it. */
        private void advance() {
            start = behind;
            while (start < size && bytes[start] == ' ') {
                start++;
            }
            if (start >= size) {
                token = END;
            } else if (bytes[start] == ';') {
                token = SEMICOLON;
                behind = start + 1;
            } else if (isBetween('a', 'z', start)) {
                behind = endOfRun('a', 'z');
                token = behind - start <= MOST_LETTERS ? WORD : NO_TOKEN;
            } else if (isBetween('0', '9', start)) {
                behind = endOfRun('0', '9');
                token = behind - start <= MOST_DIGITS ? NUMBER : NO_TOKEN;
            } else {
                token = NO_TOKEN;
            }
        }

        private int endOfRun(int least, int most) {
            int end = start;
            while (end < size && isBetween(least, most, end)) {
                end++;
            }
            return end;
        }

        private boolean isBetween(int least, int most, int index) {
            return index >= 0 && index < MOST_BYTES && bytes[index] >= least && bytes[index] <= most;
        }

        private int numberHere() {
            int number = 0;
            for (int i = start; i < behind && i < size; i++) {
                number = number * 10 + bytes[i] - '0';
            }
            return number;
        }
    }
}
