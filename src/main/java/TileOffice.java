import java.util.Arrays;

/** An office for tile patterns; the document's numbered promises say what each call answers. */
public final class TileOffice {
    public static final int NONE = -1;

    private static final int MOVES = 8;
    private static final int SIDES = 4;
    private static final int MOST_PATTERNS = 16;
    private static final int MOST_RULES = 8;
    private static final int MOST_FLOORS = 6;
    private static final int MOST_GROWTH = 5;
    private static final int MOST_FORETOLD = 60;
    private static final int MOST_FILLS = 1000;
    private static final int SHOWN_REFUSED = -2;

    private final Kinds kinds;
    private final RowStore store;
    private final Pattern[] patterns;
    private int patternCount;
    private final History history;
    private final Block region;
    private final Block original;
    private final Block moved;
    private final int[] foundMoves;
    private final Rule[] rules;
    private int ruleCount;
    private final Floor[] floors;
    private int floorCount;
    private final Board board;
    private final Search search;

    public TileOffice() {
        Kinds ownKinds = new Kinds();
        Board ownBoard = new Board(new Choices(ownKinds));
        kinds = ownKinds;
        board = ownBoard;
        search = new Search(ownBoard, ownKinds);
        store = new RowStore();
        patterns = new Pattern[MOST_PATTERNS];
        history = new History();
        region = new Block(Block.MOST_REGION * Block.MOST_REGION);
        original = new Block(Pattern.MOST_ROWS * RowStore.MOST_LENGTH);
        moved = new Block(Pattern.MOST_ROWS * RowStore.MOST_LENGTH);
        foundMoves = new int[Pattern.MOST_ROWS * RowStore.MOST_LENGTH];
        rules = new Rule[MOST_RULES];
        floors = new Floor[MOST_FLOORS];
    }

    // ---- kinds and MOVES

    public int kind(int edges, int turns, boolean mirrors, int cost, long name) {
        long letters = Kinds.lettersOf(name);
        if (!Kinds.mayBe(edges, turns, cost) || letters == 0 || kinds.isFull()) {
            return NONE;
        }
        return kinds.withLetters(letters) == NONE ? kinds.add(edges, turns, mirrors, cost, letters) : NONE;
    }

    public int named(long name) {
        return kinds.withLetters(Kinds.lettersOf(name));
    }

    public int edge(int kind, int move, int e) {
        if (!kinds.has(kind) || !isMove(move) || e < 0 || e > SIDES) {
            return NONE;
        }
        int lying = kinds.lies(kind, move);
        return e == SIDES ? lying : kinds.colour(kind, lying, e);
    }

    public int then(int a, int b) {
        return isMove(a) && isMove(b) ? Kinds.chained(a, b) : NONE;
    }

    private static boolean isMove(int move) {
        return move >= 0 && move < MOVES;
    }

    private boolean isKindInMove(int kind, int move) {
        return kinds.has(kind) && isMove(move);
    }

    // ---- patterns and their ROWS

    public int pattern() {
        return patternCount < MOST_PATTERNS ? keep(new Pattern(store)) : NONE;
    }

    private int keep(Pattern made) {
        if (patternCount >= MOST_PATTERNS) {
            return NONE;
        }
        patterns[patternCount] = made;
        patternCount++;
        return patternCount - 1;
    }

    private Pattern patternOf(int p) {
        return p >= 0 && p < patternCount ? patterns[p] : null;
    }

    public boolean insert(int p, int i, int length, int offset) {
        Pattern pattern = patternOf(p);
        if (pattern == null || i < 0 || i > pattern.size || pattern.size >= Pattern.MOST_ROWS) {
            return false;
        }
        if (!RowStore.mayBe(length, offset) || store.left() < 1) {
            return false;
        }
        history.remember(p, pattern);
        pattern.insertId(i, store.make(length, offset));
        return true;
    }

    public boolean remove(int p, int i) {
        Pattern pattern = patternOf(p);
        if (pattern == null || !pattern.hasRow(i)) {
            return false;
        }
        history.remember(p, pattern);
        pattern.removeId(i);
        return true;
    }

    public boolean move(int p, int i, int to) {
        Pattern pattern = patternOf(p);
        if (pattern == null || !pattern.hasRow(i) || !pattern.hasRow(to)) {
            return false;
        }
        history.remember(p, pattern);
        int id = pattern.idAt(i);
        pattern.removeId(i);
        pattern.insertId(to, id);
        return true;
    }

    public boolean put(int p, int i, int j, int kind, int move) {
        if (kind == NONE) {
            return setCell(p, i, j, Cell.EMPTY);
        }
        return isKindInMove(kind, move) && setCell(p, i, j, kinds.cellOf(kind, move));
    }

    public boolean shade(int p, int i, int j, int s) {
        Pattern pattern = patternOf(p);
        int cell = pattern == null ? Cell.ABSENT : pattern.cellAt(i, j);
        return cell >= 0 && setCell(p, i, j, Cell.shaded(cell, s));
    }

    private boolean setCell(int p, int i, int j, int cell) {
        Pattern pattern = patternOf(p);
        if (pattern == null || pattern.cellAt(i, j) == Cell.ABSENT || store.left() < 1) {
            return false;
        }
        history.remember(p, pattern);
        store.setCell(pattern.renewRow(i), j, cell);
        return true;
    }

    public int at(int p, int i, int j, int what) {
        Pattern pattern = patternOf(p);
        if (pattern == null || what < 0 || what > 2) {
            return NONE;
        }
        int cell = pattern.cellAt(i, j);
        if (what == 0) {
            return Cell.kindOf(cell);
        }
        return what == 1 ? Cell.moveOf(cell) : Cell.shadeOf(cell);
    }

    public int row(int p, int i, int what) {
        Pattern pattern = patternOf(p);
        if (pattern == null || !pattern.hasRow(i) || what < 0 || what > 2) {
            return NONE;
        }
        if (what == 2) {
            return placesOf(pattern.idAt(i));
        }
        return what == 0 ? pattern.lengthAt(i) : pattern.offsetAt(i);
    }

    private int placesOf(int id) {
        int places = 0;
        for (int p = 0; p < patternCount; p++) {
            Pattern pattern = patternOf(p);
            if (pattern != null) {
                places += pattern.placesOf(id);
            }
        }
        return places;
    }

    public boolean shares(int p, int i, int q, int k) {
        Pattern one = patternOf(p);
        Pattern other = patternOf(q);
        if (one == null || other == null || !one.hasRow(i) || !other.hasRow(k)) {
            return false;
        }
        return one.idAt(i) == other.idAt(k);
    }

    public int copy(int p) {
        Pattern pattern = patternOf(p);
        if (pattern == null || patternCount >= MOST_PATTERNS) {
            return NONE;
        }
        Pattern made = new Pattern(store);
        made.takeRows(pattern.ids, 0, pattern.size);
        return keep(made);
    }

    // ---- THE REGION

    public int region(int p, int i, int j, int rows, int columns) {
        Pattern pattern = patternOf(p);
        if (pattern == null || !Block.mayBeRegion(rows, columns)) {
            return NONE;
        }
        region.takePattern(pattern, i, j, rows, columns);
        return region.filledCells();
    }

    public boolean turn(int move) {
        if (region.isNothing() || !isMove(move)) {
            return false;
        }
        original.takeMoved(region, 0, kinds);
        region.takeMoved(original, move, kinds);
        return true;
    }

    public int paste(int p, int i, int j) {
        Pattern pattern = patternOf(p);
        if (pattern == null || region.isNothing()) {
            return NONE;
        }
        int came = 0;
        int changed = 0;
        for (int a = 0; a < region.rows; a++) {
            int here = cellsThatCome(pattern, a, i, j);
            came += here;
            changed += here > 0 ? 1 : 0;
        }
        if (changed > store.left()) {
            return NONE;
        }
        if (came > 0) {
            history.remember(p, pattern);
            pasteRows(pattern, i, j);
        }
        return came;
    }

    private int cellsThatCome(Pattern pattern, int a, int i, int j) {
        int come = 0;
        for (int b = 0; b < region.columns; b++) {
            if (comes(pattern, a, b, i, j)) {
                come++;
            }
        }
        return come;
    }

    // The place is reckoned in longs, for i and j may be any numbers.
    private boolean comes(Pattern pattern, int a, int b, int i, int j) {
        return region.cellAt(a, b) != Cell.ABSENT
            && pattern.cellAt((long) i + a, (long) j + b) != Cell.ABSENT;
    }

    private void pasteRows(Pattern pattern, int i, int j) {
        for (int a = 0; a < region.rows; a++) {
            if (cellsThatCome(pattern, a, i, j) > 0) {
                int own = pattern.renewRow(i + a);
                for (int b = 0; b < region.columns; b++) {
                    if (comes(pattern, a, b, i, j)) {
                        store.setCell(own, j + b, region.cellAt(a, b));
                    }
                }
            }
        }
    }

    // ---- rules

    public int rule(int rows, int columns) {
        if (ruleCount >= MOST_RULES || !Rule.mayBe(rows, columns)) {
            return NONE;
        }
        rules[ruleCount] = new Rule(rows, columns);
        ruleCount++;
        return ruleCount - 1;
    }

    private Rule ruleOf(int r) {
        return r >= 0 && r < ruleCount ? rules[r] : null;
    }

    public boolean becomes(int r, int kind, int i, int j, int other, int move) {
        Rule rule = ruleOf(r);
        if (rule == null || !kinds.has(kind) || !rule.hasPlace(i, j)) {
            return false;
        }
        if (other != NONE && !isKindInMove(other, move)) {
            return false;
        }
        rule.setCell(kind, i, j, other == NONE ? Cell.EMPTY : kinds.cellOf(other, move));
        return true;
    }

    public int grow(int p, int r, int steps) {
        Pattern source = patternOf(p);
        Rule rule = ruleOf(r);
        if (source == null || rule == null || steps < 0 || steps > MOST_GROWTH) {
            return NONE;
        }
        int down = power(rule.rows, steps);
        int across = power(rule.columns, steps);
        if (patternCount >= MOST_PATTERNS || source.size * down > store.left()) {
            return NONE;
        }
        if (!source.mayGrow(down, across) || !growsStraight(source, rule, steps)) {
            return NONE;
        }
        Pattern made = new Pattern(store);
        for (int i = 0; i < source.size * down; i++) {
            made.insertId(i, grownRow(source, rule, steps, i));
        }
        return keep(made);
    }

    // Never below 1, for it divides, too.
    private static int power(int base, int times) {
        int product = 1;
        for (int n = 0; n < times; n++) {
            product *= Math.max(1, base);
        }
        return Math.max(1, product);
    }

    // All CELLS on the way are looked at ahead, so that nothing is made if one of them lies wrongly.
    private boolean growsStraight(Pattern source, Rule rule, int steps) {
        if (rule.rows == rule.columns) {
            return true;
        }
        int down = power(rule.rows, steps);
        int across = power(rule.columns, steps);
        for (int i = 0; i < source.size * down; i++) {
            int from = source.offsetAt(i / down) * across;
            int to = from + source.lengthAt(i / down) * across;
            for (int j = from; j < to; j++) {
                if (grownCell(source, rule, steps, i, j) == Cell.WRONG) {
                    return false;
                }
            }
        }
        return true;
    }

    private int grownRow(Pattern source, Rule rule, int steps, int i) {
        int across = power(rule.columns, steps);
        int above = i / power(rule.rows, steps);
        int offset = source.offsetAt(above) * across;
        int length = source.lengthAt(above) * across;
        int id = store.make(length, offset);
        for (int j = offset; j < offset + length; j++) {
            store.setCell(id, j, grownCell(source, rule, steps, i, j));
        }
        return id;
    }

    // Goes down from the CELL of the pattern to (i, j) of what is grown, one step after the other.
    private int grownCell(Pattern source, Rule rule, int steps, int i, int j) {
        int down = power(rule.rows, steps);
        int across = power(rule.columns, steps);
        int cell = source.cellAt(i / down, Math.floorDiv(j, across));
        for (int left = steps - 1; left >= 0; left--) {
            int a = i % down;
            int b = Math.floorMod(j, across);
            down = power(rule.rows, left);
            across = power(rule.columns, left);
            cell = rule.childOf(cell, a / down, b / across, kinds);
        }
        return cell;
    }

    public long foretold(int r, int a, int steps, int b) {
        Rule rule = ruleOf(r);
        if (rule == null || !kinds.has(a) || !kinds.has(b) || steps < 0 || steps > MOST_FORETOLD) {
            return NONE;
        }
        return rule.foretell(a, steps, b);
    }

    // ---- what is SEEN of patterns

    public int count(int p, int kind) {
        Pattern pattern = patternOf(p);
        if (pattern == null || kind != NONE && !kinds.has(kind)) {
            return NONE;
        }
        int cells = 0;
        for (int i = 0; i < pattern.size; i++) {
            int from = pattern.offsetAt(i);
            int to = from + pattern.lengthAt(i);
            for (int j = from; j < to; j++) {
                cells += Cell.kindOf(pattern.cellAt(i, j)) == kind ? 1 : 0;
            }
        }
        return cells;
    }

    public int fits(int p) {
        Pattern pattern = patternOf(p);
        if (pattern == null) {
            return NONE;
        }
        int place = 0;
        for (int i = 0; i < pattern.size; i++) {
            int from = pattern.offsetAt(i);
            int to = from + pattern.lengthAt(i);
            for (int j = from; j < to; j++) {
                int cell = pattern.cellAt(i, j);
                boolean right = kinds.meet(cell, 1, pattern.cellAt(i, j + 1));
                boolean below = kinds.meet(cell, 2, pattern.cellAt(i + 1, j));
                if (!right || !below) {
                    return 1 + 2 * place + (right ? 1 : 0);
                }
                place++;
            }
        }
        return 0;
    }

    public int period(int p, int what) {
        Pattern pattern = patternOf(p);
        if (pattern == null || what < 0 || what > 1) {
            return NONE;
        }
        int a = 1;
        while (a < RowStore.MOST_LENGTH && !repeats(pattern, what == 0 ? a : 0, what == 0 ? 0 : a)) {
            a++;
        }
        return a;
    }

    private static boolean repeats(Pattern pattern, int down, int across) {
        for (int i = 0; i + down < pattern.size; i++) {
            int from = pattern.offsetAt(i);
            int to = from + pattern.lengthAt(i);
            for (int j = from; j < to; j++) {
                int other = pattern.cellAt(i + down, j + across);
                if (other != Cell.ABSENT && other != pattern.cellAt(i, j)) {
                    return false;
                }
            }
        }
        return true;
    }

    public int kept(int p) {
        Pattern pattern = patternOf(p);
        if (pattern == null) {
            return NONE;
        }
        int bits = 0;
        if (pattern.isFull()) {
            original.takeWhole(pattern);
            for (int m = 0; m < MOVES; m++) {
                moved.takeMoved(original, m, kinds);
                bits |= pattern.isBlock(moved) ? 1 << m : 0;
            }
        }
        return bits;
    }

    public int congruent(int p, int q) {
        Pattern one = patternOf(p);
        Pattern other = patternOf(q);
        if (one == null || other == null || !one.isFull() || !other.isFull()) {
            return NONE;
        }
        original.takeWhole(one);
        for (int m = 0; m < MOVES; m++) {
            moved.takeMoved(original, m, kinds);
            if (other.isBlock(moved)) {
                return m;
            }
        }
        return NONE;
    }

    public int find(int p, int q, int k) {
        Pattern where = patternOf(p);
        Pattern sought = patternOf(q);
        if (where == null || sought == null || !sought.isFull() || k < 0) {
            return NONE;
        }
        Arrays.fill(foundMoves, 0);
        original.takeWhole(sought);
        for (int m = 0; m < MOVES; m++) {
            moved.takeMoved(original, m, kinds);
            markFound(where, m);
        }
        return foundAt(k);
    }

    // What is found by one MOVE is marked first, for the order goes by places before MOVES.
    private void markFound(Pattern where, int m) {
        for (int i = 0; i + moved.rows <= where.size; i++) {
            int from = where.offsetAt(i);
            int last = where.lengthAt(i) - moved.columns;
            for (int place = 0; place <= last; place++) {
                int index = i * RowStore.MOST_LENGTH + place;
                if (index < foundMoves.length && where.bears(moved, i, from + place)) {
                    foundMoves[index] |= 1 << m;
                }
            }
        }
    }

    private int foundAt(int k) {
        int before = 0;
        for (int index = 0; index < foundMoves.length; index++) {
            int here = Integer.bitCount(foundMoves[index]);
            if (here > k - before) {
                int i = index / RowStore.MOST_LENGTH;
                int place = index % RowStore.MOST_LENGTH;
                return 1000 * i + 10 * place + bitAt(foundMoves[index], k - before);
            }
            before += here;
        }
        return NONE;
    }

    private static int bitAt(int bits, int n) {
        int before = 0;
        for (int m = 0; m < MOVES; m++) {
            if ((bits >> m & 1) == 1) {
                if (before == n) {
                    return m;
                }
                before++;
            }
        }
        return NONE;
    }

    // ---- floors

    public int floor(int rows, int columns) {
        if (floorCount >= MOST_FLOORS || !Floor.mayBe(rows, columns)) {
            return NONE;
        }
        floors[floorCount] = new Floor(rows, columns);
        floorCount++;
        return floorCount - 1;
    }

    private Floor floorOf(int f) {
        return f >= 0 && f < floorCount ? floors[f] : null;
    }

    public boolean place(int f, int i, int j, int kind, int move) {
        Floor floor = floorOf(f);
        if (floor == null || !floor.hasPlace(i, j)) {
            return false;
        }
        if (kind == NONE || kind == Floor.HOLE) {
            floor.setPlace(i, j, kind);
            return true;
        }
        if (!isKindInMove(kind, move)) {
            return false;
        }
        floor.setPlace(i, j, MOVES * kind + kinds.lies(kind, move));
        return true;
    }

    public boolean stock(int f, int kind, int n) {
        Floor floor = floorOf(f);
        if (floor == null || !kinds.has(kind) || n < 0 || n > Floor.MOST_STOCK) {
            return false;
        }
        floor.setStock(kind, n);
        return true;
    }

    public int fill(int f) {
        Floor floor = floorOf(f);
        if (floor == null) {
            return NONE;
        }
        search.begin(floor, false);
        search.explore(floor, 1);
        if (search.found > 0) {
            return 1;
        }
        return search.known ? 0 : 2;
    }

    public int fills(int f, int most) {
        Floor floor = floorOf(f);
        if (floor == null || most < 1 || most > MOST_FILLS) {
            return NONE;
        }
        search.begin(floor, false);
        search.explore(floor, most);
        return search.known ? search.found : -2;
    }

    public int cheapest(int f) {
        Floor floor = floorOf(f);
        if (floor == null) {
            return NONE;
        }
        search.begin(floor, true);
        search.explore(floor, Integer.MAX_VALUE);
        if (!search.known) {
            return -3;
        }
        return search.found > 0 ? search.best : -2;
    }

    public int forced(int f) {
        Floor floor = floorOf(f);
        if (floor == null) {
            return NONE;
        }
        board.begin(floor);
        int got = board.forceRounds();
        board.showOn(floor);
        return got;
    }

    public int shown(int f, int i, int j) {
        Floor floor = floorOf(f);
        return floor == null || !floor.hasPlace(i, j) ? SHOWN_REFUSED : floor.shownAt(i, j);
    }

    // ---- the office

    public int undo() {
        if (history.count == 0) {
            return NONE;
        }
        Pattern pattern = patternOf(history.latestPattern());
        if (pattern != null) {
            history.giveBack(pattern);
        }
        return history.count;
    }

    public int about(int what) {
        switch (what) {
            case 0: return kinds.count;
            case 1: return patternCount;
            case 2: return ruleCount;
            case 3: return floorCount;
            case 4: return store.made;
            case 5: return region.rows;
            case 6: return region.columns;
            case 7: return history.count;
            case 8: return search.stepsOfLife;
            default: return NONE;
        }
    }

    /** A CELL in one int, kind, MOVE and SHADE side by side, so that ALIKE is ==; below 0: no tile. */
    private static final class Cell {
        static final int EMPTY = -1;
        static final int ABSENT = -2;
        static final int WRONG = -3;

        static int tile(int kind, int lying, int shade) {
            return kind << 19 | lying << 16 | shade & 0xFFFF;
        }

        static int kindOf(int cell) {
            return cell < 0 ? cell : cell >> 19;
        }

        static int moveOf(int cell) {
            return cell < 0 ? 0 : cell >> 16 & 7;
        }

        static int shadeOf(int cell) {
            return cell < 0 ? 0 : (short) cell;
        }

        static int shaded(int cell, int shade) {
            return cell < 0 ? cell : tile(kindOf(cell), moveOf(cell), shade);
        }
    }

    /** The KINDS, and what MOVES do to tiles of them. */
    private static final class Kinds {
        static final int MOST = 40;
        private static final int MOST_COST = 1000;

        int count;
        private final int[] edges = new int[MOST];
        private final int[] turnsOf = new int[MOST];
        private final boolean[] mirrored = new boolean[MOST];
        private final int[] costs = new int[MOST];
        private final long[] letters = new long[MOST];

        /** The name's letters closed up, so that one name is one number; 0 if it is no name. */
        static long lettersOf(long name) {
            long closedUp = 0;
            for (int shift = 56; shift >= 0; shift -= 8) {
                long letter = name >>> shift & 255;
                if (letter != 0 && (letter < 'a' || letter > 'z')) {
                    return 0;
                }
                closedUp = letter == 0 ? closedUp : closedUp << 8 | letter;
            }
            return closedUp;
        }

        static boolean mayBe(int edges, int turns, int cost) {
            if (edges < 0 || edges > 0xFFFF || cost < 0 || cost > MOST_COST) {
                return false;
            }
            boolean opposite = (edges & 0xFF) == edges >> 8;
            boolean all = opposite && (edges & 15) == (edges >> 4 & 15);
            return turns == 4 || turns == 2 && opposite || turns == 1 && all;
        }

        static int chained(int a, int b) {
            int turns = b >= 4 ? b - a : b + a;
            return (turns & 3) + ((a >= 4) == (b >= 4) ? 0 : 4);
        }

        boolean isFull() {
            return count >= MOST;
        }

        boolean has(int kind) {
            return kind >= 0 && kind < count;
        }

        int add(int itsEdges, int turns, boolean mirrors, int cost, long itsLetters) {
            if (isFull()) {
                return NONE;
            }
            edges[count] = itsEdges;
            turnsOf[count] = turns;
            mirrored[count] = mirrors;
            costs[count] = cost;
            letters[count] = itsLetters;
            count++;
            return count - 1;
        }

        int withLetters(long sought) {
            for (int kind = 0; kind < count; kind++) {
                if (letters[kind] == sought) {
                    return kind;
                }
            }
            return NONE;
        }

        int costOf(int kind) {
            return kind >= 0 && kind < count ? costs[kind] : 0;
        }

        // TURNS is 1, 2 or 4, so that a mask does for the remainder.
        int lies(int kind, int move) {
            if (kind < 0 || kind >= count) {
                return 0;
            }
            return (move & 3 & turnsOf[kind] - 1) + (move >= 4 && mirrored[kind] ? 4 : 0);
        }

        int colour(int kind, int lying, int side) {
            if (kind < 0 || kind >= count) {
                return 0;
            }
            int from = side - lying & 3;
            int first = lying >= 4 ? 4 - from & 3 : from;
            return edges[kind] >> 4 * first & 15;
        }

        int cellOf(int kind, int move) {
            return Cell.tile(kind, lies(kind, move), 0);
        }

        int movedCell(int cell, int move) {
            if (cell < 0) {
                return cell;
            }
            int kind = Cell.kindOf(cell);
            int lying = lies(kind, chained(Cell.moveOf(cell), move));
            return Cell.tile(kind, lying, Cell.shadeOf(cell));
        }

        boolean meet(int cell, int side, int other) {
            if (cell < 0 || other < 0) {
                return true;
            }
            int here = colour(Cell.kindOf(cell), Cell.moveOf(cell), side);
            return here == colour(Cell.kindOf(other), Cell.moveOf(other), side + 2 & 3);
        }
    }

    /** All ROWS MADE, by number; patterns hold the numbers, so that the very same row is the same number. */
    private static final class RowStore {
        static final int MOST_LENGTH = 60;
        private static final int MOST_OFFSET = 30;
        private static final int MOST_MADE = 6000;

        int made;
        private final int[] offsets = new int[MOST_MADE];
        private final int[][] cells = new int[MOST_MADE][];

        static boolean mayBe(int length, int offset) {
            return length >= 0 && length <= MOST_LENGTH && offset >= -MOST_OFFSET && offset <= MOST_OFFSET;
        }

        int left() {
            return MOST_MADE - made;
        }

        int make(int length, int offset) {
            if (made >= MOST_MADE || !mayBe(length, offset)) {
                return NONE;
            }
            int[] fresh = new int[length];
            Arrays.fill(fresh, Cell.EMPTY);
            return enter(fresh, offset);
        }

        int makeLike(int id) {
            int[] like = cellsOf(id);
            return like == null || made >= MOST_MADE ? NONE : enter(like.clone(), offsetOf(id));
        }

        private int enter(int[] fresh, int offset) {
            cells[made] = fresh;
            offsets[made] = offset;
            made++;
            return made - 1;
        }

        private int[] cellsOf(int id) {
            return id >= 0 && id < made ? cells[id] : null;
        }

        int offsetOf(int id) {
            return id >= 0 && id < made ? offsets[id] : 0;
        }

        int lengthOf(int id) {
            int[] row = cellsOf(id);
            return row == null ? 0 : row.length;
        }

        int cellAt(int id, long column) {
            int[] row = cellsOf(id);
            long place = column - offsetOf(id);
            return row == null || place < 0 || place >= row.length ? Cell.ABSENT : row[(int) place];
        }

        void setCell(int id, int column, int cell) {
            int[] row = cellsOf(id);
            int place = column - offsetOf(id);
            if (row != null && place >= 0 && place < row.length) {
                row[place] = cell;
            }
        }

        /** Whether the row has, from that column on, the CELLS of one row of a block. */
        boolean bears(int id, int column, Block block, int blockRow) {
            int[] row = cellsOf(id);
            int place = column - offsetOf(id);
            if (row == null || place < 0 || place > row.length - block.columns) {
                return false;
            }
            int start = blockRow * block.columns;
            if (start < 0 || start > block.cells.length - block.columns) {
                return false;
            }
            for (int j = 0; j < block.columns; j++) {
                if (row[place + j] != block.cells[start + j]) {
                    return false;
                }
            }
            return true;
        }
    }

    /** A pattern: the numbers of its ROWS. */
    private static final class Pattern {
        static final int MOST_ROWS = 60;

        private final RowStore store;
        final int[] ids = new int[MOST_ROWS];
        int size;

        Pattern(RowStore itsStore) {
            store = itsStore;
        }

        boolean hasRow(long i) {
            return i >= 0 && i < size;
        }

        int idAt(long i) {
            return hasRow(i) ? ids[(int) i] : NONE;
        }

        int lengthAt(int i) {
            return store.lengthOf(idAt(i));
        }

        int offsetAt(int i) {
            return store.offsetOf(idAt(i));
        }

        int cellAt(long i, long j) {
            return store.cellAt(idAt(i), j);
        }

        void insertId(int i, int id) {
            if (size < MOST_ROWS && i >= 0 && i <= size) {
                System.arraycopy(ids, i, ids, i + 1, size - i);
                ids[i] = id;
                size++;
            }
        }

        void removeId(int i) {
            if (hasRow(i)) {
                System.arraycopy(ids, i + 1, ids, i, size - i - 1);
                size--;
            }
        }

        /** Row i becomes a new one with the same CELLS, which may be set then. */
        int renewRow(int i) {
            int own = store.makeLike(idAt(i));
            if (hasRow(i) && own != NONE) {
                ids[i] = own;
            }
            return own;
        }

        void takeRows(int[] from, int start, int many) {
            if (many >= 0 && many <= MOST_ROWS && start >= 0 && start <= from.length - many) {
                System.arraycopy(from, start, ids, 0, many);
                size = many;
            }
        }

        int placesOf(int id) {
            int places = 0;
            for (int i = 0; i < size; i++) {
                places += ids[i] == id ? 1 : 0;
            }
            return places;
        }

        boolean isFull() {
            for (int i = 0; i < size; i++) {
                if (offsetAt(i) != 0 || lengthAt(i) == 0 || lengthAt(i) != lengthAt(0)) {
                    return false;
                }
            }
            return size > 0;
        }

        boolean mayGrow(int down, int across) {
            for (int i = 0; i < size; i++) {
                if (!RowStore.mayBe(lengthAt(i) * across, offsetAt(i) * across)) {
                    return false;
                }
            }
            return size * down <= MOST_ROWS;
        }

        /** Whether this FULL pattern is the block. */
        boolean isBlock(Block block) {
            return block.rows == size && block.columns == lengthAt(0) && bears(block, 0, 0);
        }

        boolean bears(Block block, int i, int column) {
            for (int a = 0; a < block.rows; a++) {
                if (!store.bears(idAt(i + a), column, block, a)) {
                    return false;
                }
            }
            return true;
        }
    }

    /** The latest changes of patterns, in a ring: the ROWS that a pattern had ahead of each. */
    private static final class History {
        private static final int MOST = 40;

        int count;
        private int next;
        private final int[] changed = new int[MOST];
        private final int[] sizes = new int[MOST];
        private final int[] ids = new int[MOST * Pattern.MOST_ROWS];

        void remember(int p, Pattern pattern) {
            changed[next] = p;
            sizes[next] = pattern.size;
            System.arraycopy(pattern.ids, 0, ids, next * Pattern.MOST_ROWS, Pattern.MOST_ROWS);
            next = next + 1 < MOST ? next + 1 : 0;
            count = Math.min(MOST, count + 1);
        }

        private int latest() {
            return next > 0 ? next - 1 : MOST - 1;
        }

        int latestPattern() {
            return count > 0 ? changed[latest()] : NONE;
        }

        void giveBack(Pattern pattern) {
            if (count > 0) {
                next = latest();
                count--;
                pattern.takeRows(ids, next * Pattern.MOST_ROWS, sizes[next]);
            }
        }
    }

    /** A block of CELLS, EMPTY ones and none, row after row; of 0 rows: there is none. */
    private static final class Block {
        static final int MOST_REGION = 20;

        int rows;
        int columns;
        final int[] cells;

        Block(int capacity) {
            cells = new int[Math.max(0, capacity)];
        }

        static boolean mayBeRegion(int rows, int columns) {
            return rows >= 1 && rows <= MOST_REGION && columns >= 1 && columns <= MOST_REGION;
        }

        boolean isNothing() {
            return rows == 0;
        }

        private boolean hasPlace(int i, int j) {
            return i >= 0 && i < rows && j >= 0 && j < columns && i * columns + j < cells.length;
        }

        int cellAt(int i, int j) {
            return hasPlace(i, j) ? cells[i * columns + j] : Cell.ABSENT;
        }

        private void setCell(int i, int j, int cell) {
            if (hasPlace(i, j)) {
                cells[i * columns + j] = cell;
            }
        }

        int filledCells() {
            int filled = 0;
            for (int i = 0; i < rows; i++) {
                for (int j = 0; j < columns; j++) {
                    filled += cellAt(i, j) >= 0 ? 1 : 0;
                }
            }
            return filled;
        }

        void takePattern(Pattern pattern, int top, int left, int itsRows, int itsColumns) {
            rows = itsRows;
            columns = itsColumns;
            for (int i = 0; i < rows; i++) {
                for (int j = 0; j < columns; j++) {
                    setCell(i, j, pattern.cellAt((long) top + i, (long) left + j));
                }
            }
        }

        void takeWhole(Pattern full) {
            takePattern(full, 0, 0, full.size, full.lengthAt(0));
        }

        void takeMoved(Block from, int move, Kinds kinds) {
            boolean across = (move & 1) == 1;
            rows = across ? from.columns : from.rows;
            columns = across ? from.rows : from.columns;
            for (int i = 0; i < from.rows; i++) {
                for (int j = 0; j < from.columns; j++) {
                    int cell = kinds.movedCell(from.cellAt(i, j), move);
                    int k = move >= 4 ? from.columns - 1 - j : j;
                    switch (move & 3) {
                        case 0: setCell(i, k, cell); break;
                        case 1: setCell(k, from.rows - 1 - i, cell); break;
                        case 2: setCell(from.rows - 1 - i, from.columns - 1 - k, cell); break;
                        default: setCell(from.columns - 1 - k, i, cell); break;
                    }
                }
            }
        }
    }

    /** A rule: a block of CELLS for each kind. */
    private static final class Rule {
        private static final int MOST_SIDE = 4;
        private static final int BLOCK = MOST_SIDE * MOST_SIDE;
        private static final long TOO_MANY = -2;

        final int rows;
        final int columns;
        private final int[] cells = new int[Kinds.MOST * BLOCK];
        private final long[] even = new long[Kinds.MOST];
        private final long[] odd = new long[Kinds.MOST];

        Rule(int itsRows, int itsColumns) {
            rows = itsRows;
            columns = itsColumns;
            Arrays.fill(cells, Cell.EMPTY);
        }

        static boolean mayBe(int rows, int columns) {
            return rows >= 1 && rows <= MOST_SIDE && columns >= 1 && columns <= MOST_SIDE;
        }

        boolean hasPlace(int i, int j) {
            return i >= 0 && i < rows && j >= 0 && j < columns;
        }

        private boolean hasCell(int kind, int i, int j) {
            return kind >= 0 && kind < Kinds.MOST && hasPlace(i, j);
        }

        void setCell(int kind, int i, int j, int cell) {
            if (hasCell(kind, i, j)) {
                cells[kind * BLOCK + i * MOST_SIDE + j] = cell;
            }
        }

        private int cellAt(int kind, int i, int j) {
            return hasCell(kind, i, j) ? cells[kind * BLOCK + i * MOST_SIDE + j] : Cell.EMPTY;
        }

        /** CELL (a, b) of the block that a CELL becomes; WRONG if the block can't be turned so. */
        int childOf(int cell, int a, int b, Kinds kinds) {
            if (cell < 0) {
                return cell;
            }
            int move = Cell.moveOf(cell);
            if (rows != columns && (move & 1) == 1) {
                return Cell.WRONG;
            }
            int i = rowBefore(move, a, b);
            int k = columnBefore(move, a, b);
            int child = cellAt(Cell.kindOf(cell), i, move >= 4 ? columns - 1 - k : k);
            return Cell.shaded(kinds.movedCell(child, move), Cell.shadeOf(cell));
        }

        // Where what comes to (a, b) stood ahead of its turns; turned by an odd number, rows and columns are as many.
        private int rowBefore(int move, int a, int b) {
            switch (move & 3) {
                case 0: return a;
                case 1: return rows - 1 - b;
                case 2: return rows - 1 - a;
                default: return b;
            }
        }

        private int columnBefore(int move, int a, int b) {
            switch (move & 3) {
                case 0: return b;
                case 1: return a;
                case 2: return columns - 1 - b;
                default: return columns - 1 - a;
            }
        }

        long foretell(int a, int steps, int b) {
            if (a < 0 || a >= Kinds.MOST || b < 0 || b >= Kinds.MOST) {
                return NONE;
            }
            Arrays.fill(even, 0L);
            even[a] = 1;
            for (int n = 0; n < steps; n++) {
                if (n % 2 == 0) {
                    foretellStep(even, odd);
                } else {
                    foretellStep(odd, even);
                }
            }
            return steps % 2 == 0 ? even[b] : odd[b];
        }

        private void foretellStep(long[] now, long[] next) {
            Arrays.fill(next, 0L);
            for (int kind = 0; kind < Kinds.MOST; kind++) {
                for (int n = 0; n < BLOCK && now[kind] != 0; n++) {
                    int child = Cell.kindOf(cells[kind * BLOCK + n]);
                    if (child >= 0 && child < Kinds.MOST) {
                        next[child] = sum(next[child], now[kind]);
                    }
                }
            }
        }

        // No summand is below 0, so that what is too many once is too many for good.
        private static long sum(long a, long b) {
            return a == TOO_MANY || b == TOO_MANY || a > Long.MAX_VALUE - b ? TOO_MANY : a + b;
        }
    }

    /** A floor: what its PLACES are, what was put there, and the STOCK. */
    private static final class Floor {
        static final int HOLE = -2;
        static final int MOST_STOCK = 99;
        static final int SIDE = 8;
        static final int PLACES = SIDE * SIDE;

        final int rows;
        final int columns;
        private final int[] places = new int[PLACES];
        private final int[] laid = new int[PLACES];
        private final int[] stocks = new int[Kinds.MOST];

        Floor(int itsRows, int itsColumns) {
            rows = itsRows;
            columns = itsColumns;
            Arrays.fill(places, NONE);
            Arrays.fill(laid, NONE);
        }

        static boolean mayBe(int rows, int columns) {
            return rows >= 1 && rows <= SIDE && columns >= 1 && columns <= SIDE;
        }

        boolean hasPlace(int i, int j) {
            return i >= 0 && i < rows && j >= 0 && j < columns;
        }

        void setPlace(int i, int j, int what) {
            if (hasPlace(i, j)) {
                places[i * SIDE + j] = what;
                laid[i * SIDE + j] = NONE;
            }
        }

        /** What the PLACE is: open (NONE), a HOLE, or GIVEN, as 8 * kind + MOVE. */
        int placeAt(int index) {
            return index >= 0 && index < PLACES ? places[index] : HOLE;
        }

        int shownAt(int i, int j) {
            if (!hasPlace(i, j)) {
                return SHOWN_REFUSED;
            }
            int index = i * SIDE + j;
            return places[index] == NONE ? laid[index] : places[index];
        }

        void setStock(int kind, int n) {
            if (kind >= 0 && kind < Kinds.MOST) {
                stocks[kind] = n;
            }
        }

        int stockOf(int kind) {
            return kind >= 0 && kind < Kinds.MOST ? stocks[kind] : 0;
        }

        void showNothing() {
            Arrays.fill(laid, NONE);
        }

        void showAt(int index, int code) {
            if (index >= 0 && index < PLACES) {
                laid[index] = code;
            }
        }
    }

    /** All (kind, MOVE as it LIES) of which a floor has STOCK, in order, and as bits by the colours at their edges. */
    private static final class Choices {
        static final int WORDS = Kinds.MOST * MOVES / 64;
        static final int ANY = 16;
        private static final int COLOURS = ANY + 1;

        final Kinds kinds;
        int size;
        private final int[] codes = new int[Kinds.MOST * MOVES];
        private final long[] bits = new long[SIDES * COLOURS * WORDS];

        Choices(Kinds itsKinds) {
            kinds = itsKinds;
        }

        void gather(Floor floor) {
            size = 0;
            Arrays.fill(bits, 0L);
            for (int kind = 0; kind < kinds.count; kind++) {
                for (int move = 0; move < MOVES && floor.stockOf(kind) > 0; move++) {
                    if (kinds.lies(kind, move) == move) {
                        enter(MOVES * kind + move);
                    }
                }
            }
        }

        private void enter(int code) {
            if (size < codes.length) {
                codes[size] = code;
                for (int side = 0; side < SIDES; side++) {
                    mark(side, colourOf(code, side));
                    mark(side, ANY);
                }
                size++;
            }
        }

        private void mark(int side, int colour) {
            bits[(side * COLOURS + colour) * WORDS + (size >> 6)] |= 1L << (size & 63);
        }

        int codeOf(int choice) {
            return choice >= 0 && choice < size ? codes[choice] : NONE;
        }

        int kindOf(int choice) {
            return choice >= 0 && choice < size ? codes[choice] >> 3 : NONE;
        }

        /** The colour at a side of what lies as a code says; ANY if nothing lies. */
        int colourOf(int code, int side) {
            return code < 0 ? ANY : kinds.colour(code >> 3, code & 7, side);
        }

        /** One word of the bits of all choices. */
        long all(int word) {
            int index = ANY * WORDS + word;
            return index >= 0 && index < bits.length ? bits[index] : 0;
        }

        /** One word of the bits of all choices that have, at each side, the colour that is wanted from a place of a row on. */
        long fitting(int[] wanted, int first, int word) {
            if (first < 0 || first > wanted.length - SIDES) {
                return 0;
            }
            long some = -1L;
            for (int side = 0; side < SIDES; side++) {
                int index = (side * COLOURS + wanted[first + side]) * WORDS + word;
                some &= index >= 0 && index < bits.length ? bits[index] : 0;
            }
            return some;
        }
    }

    /** A floor while it is being filled: what lies, what is left, and how many FITTING ones each PLACE has. */
    private static final class Board {
        final Choices choices;
        int openPlaces;
        private int rows;
        private int columns;
        private final int[] codes = new int[Floor.PLACES];
        private final boolean[] open = new boolean[Floor.PLACES];
        private final int[] wanted = new int[Floor.PLACES * SIDES];
        private final int[] fitting = new int[Floor.PLACES];
        private final int[] left = new int[Kinds.MOST];
        private final long[] leftBits = new long[Choices.WORDS];
        private final int[] single = new int[Floor.PLACES];

        Board(Choices itsChoices) {
            choices = itsChoices;
        }

        void begin(Floor floor) {
            choices.gather(floor);
            rows = floor.rows;
            columns = floor.columns;
            openPlaces = 0;
            for (int place = 0; place < Floor.PLACES; place++) {
                codes[place] = floor.placeAt(place);
                open[place] = has(place) && codes[place] == NONE;
                openPlaces += open[place] ? 1 : 0;
            }
            for (int kind = 0; kind < Kinds.MOST; kind++) {
                left[kind] = floor.stockOf(kind);
            }
            for (int word = 0; word < Choices.WORDS; word++) {
                leftBits[word] = choices.all(word);
            }
            for (int place = 0; place < Floor.PLACES; place++) {
                lookAround(place);
            }
            recountAll();
        }

        private boolean has(int place) {
            return place >= 0 && place / Floor.SIDE < rows && place % Floor.SIDE < columns;
        }

        /** The PLACE beside another at a side; NONE beyond the floor's rim. */
        private int beside(int place, int side) {
            int i = place / Floor.SIDE + (side == 2 ? 1 : side == 0 ? -1 : 0);
            int j = place % Floor.SIDE + (side == 1 ? 1 : side == 3 ? -1 : 0);
            return i >= 0 && i < rows && j >= 0 && j < columns ? i * Floor.SIDE + j : NONE;
        }

        private int codeAt(int place) {
            return place >= 0 && place < Floor.PLACES ? codes[place] : Floor.HOLE;
        }

        // A HOLE, an open PLACE and the rim are all below 0 as codes: nothing is wanted of those beside them.
        private void lookAround(int place) {
            for (int side = 0; side < SIDES; side++) {
                int code = codeAt(beside(place, side));
                wanted[place * SIDES + side] = choices.colourOf(code, side + 2 & 3);
            }
        }

        boolean givenOnesFit() {
            for (int place = 0; place < Floor.PLACES; place++) {
                for (int side = 0; side < SIDES && codes[place] >= 0; side++) {
                    int want = wanted[place * SIDES + side];
                    if (want != Choices.ANY && want != choices.colourOf(codes[place], side)) {
                        return false;
                    }
                }
            }
            return true;
        }

        private boolean isWaiting(int place) {
            return place >= 0 && place < Floor.PLACES && open[place] && codes[place] == NONE;
        }

        private void recount(int place) {
            if (isWaiting(place)) {
                int many = 0;
                for (int word = 0; word < Choices.WORDS; word++) {
                    many += Long.bitCount(leftBits[word] & choices.fitting(wanted, place * SIDES, word));
                }
                fitting[place] = many;
            }
        }

        private void recountAll() {
            for (int place = 0; place < Floor.PLACES; place++) {
                recount(place);
            }
        }

        /** The PLACE to be tried next; NONE if none waits. */
        int scarcestPlace() {
            int best = NONE;
            for (int place = 0; place < Floor.PLACES; place++) {
                if (isWaiting(place) && (best == NONE || fitting[place] < fitting[best])) {
                    best = place;
                }
            }
            return best;
        }

        /** The first FITTING choice of a PLACE behind another one (behind NONE: the first of all); NONE without one. */
        int fittingAfter(int place, int choice) {
            int from = choice + 1;
            if (place < 0 || place >= Floor.PLACES || from < 0) {
                return NONE;
            }
            for (int word = from >> 6; word < Choices.WORDS; word++) {
                long bits = leftBits[word] & choices.fitting(wanted, place * SIDES, word);
                if (word == from >> 6) {
                    bits &= -1L << (from & 63);
                }
                if (bits != 0) {
                    return 64 * word + Long.numberOfTrailingZeros(bits);
                }
            }
            return NONE;
        }

        void lay(int place, int choice) {
            int code = choices.codeOf(choice);
            if (isWaiting(place) && code >= 0) {
                codes[place] = code;
                if (changeLeft(choice, -1)) {
                    recountAll();
                }
                tellAround(place);
            }
        }

        void lift(int place, int choice) {
            if (place >= 0 && place < Floor.PLACES && open[place]) {
                codes[place] = NONE;
                recount(place);
                if (changeLeft(choice, 1)) {
                    recountAll();
                }
                tellAround(place);
            }
        }

        private void tellAround(int place) {
            for (int side = 0; side < SIDES; side++) {
                int other = beside(place, side);
                if (other >= 0) {
                    wanted[other * SIDES + (side + 2 & 3)] = choices.colourOf(codes[place], side);
                    recount(other);
                }
            }
        }

        // Tells whether a kind came to its end or is there again: only then do PLACES far away change.
        private boolean changeLeft(int choice, int by) {
            int kind = choices.kindOf(choice);
            if (kind < 0 || kind >= Kinds.MOST) {
                return false;
            }
            boolean before = left[kind] > 0;
            left[kind] += by;
            boolean flips = before != left[kind] > 0;
            if (flips) {
                flipLeftBits(kind);
            }
            return flips;
        }

        private void flipLeftBits(int kind) {
            for (int choice = 0; choice < choices.size; choice++) {
                if (choices.kindOf(choice) == kind) {
                    leftBits[choice >> 6] ^= 1L << (choice & 63);
                }
            }
        }

        int forceRounds() {
            int got = 0;
            for (int round = 0; round < Floor.PLACES; round++) {
                int here = forceRound();
                if (here == 0) {
                    return got;
                }
                got += here;
            }
            return got;
        }

        private int forceRound() {
            for (int place = 0; place < Floor.PLACES; place++) {
                single[place] = isWaiting(place) && fitting[place] == 1 ? fittingAfter(place, NONE) : NONE;
            }
            int got = 0;
            for (int place = 0; place < Floor.PLACES; place++) {
                // The only one of the round's beginning still fits if it is still the first that fits.
                if (single[place] != NONE && fittingAfter(place, NONE) == single[place]) {
                    lay(place, single[place]);
                    got++;
                }
            }
            return got;
        }

        void showOn(Floor floor) {
            for (int place = 0; place < Floor.PLACES; place++) {
                floor.showAt(place, open[place] ? codes[place] : NONE);
            }
        }
    }

    /** THE SEARCH, and that for the LEAST COST. */
    private static final class Search {
        private static final int MOST_STEPS = 30000;
        private static final int MOST_STEPS_OF_LIFE = 600000;
        private static final int MOST_TURNS = 1000000;

        private final Board board;
        private final Kinds kinds;
        private final int[] placeAt = new int[Floor.PLACES];
        private final int[] choiceAt = new int[Floor.PLACES];
        private int depth;
        private int stepsLeft;
        private boolean leastCost;
        private int cost;
        private int leastOfKinds;
        int stepsOfLife;
        int found;
        int best;
        boolean known;

        Search(Board itsBoard, Kinds itsKinds) {
            board = itsBoard;
            kinds = itsKinds;
        }

        void begin(Floor floor, boolean forLeastCost) {
            floor.showNothing();
            board.begin(floor);
            depth = 0;
            stepsLeft = Math.min(MOST_STEPS, MOST_STEPS_OF_LIFE - stepsOfLife);
            leastCost = forLeastCost;
            cost = 0;
            leastOfKinds = leastCostOn(floor);
            found = 0;
            best = 0;
            known = true;
        }

        private int leastCostOn(Floor floor) {
            int least = NONE;
            for (int kind = 0; kind < kinds.count; kind++) {
                if (floor.stockOf(kind) > 0 && (least == NONE || kinds.costOf(kind) < least)) {
                    least = kinds.costOf(kind);
                }
            }
            return Math.max(0, least);
        }

        // Each turn makes a STEP or goes back over one, so that there are never as many turns as the bound.
        void explore(Floor floor, int most) {
            if (!board.givenOnesFit()) {
                return;
            }
            if (board.openPlaces == 0) {
                noteFill(floor);
                return;
            }
            openDepth(0);
            for (int turn = 0; turn < MOST_TURNS; turn++) {
                int choice = nextTry();
                if (choice == NONE) {
                    if (depth == 0) {
                        return;
                    }
                    openAgain(depth - 1);
                } else if (stepsLeft < 1) {
                    known = false;
                    return;
                } else {
                    noteTry(choice);
                    board.lay(placeAt[depth], choice);
                    if (depth + 1 < board.openPlaces) {
                        openDepth(depth + 1);
                    } else {
                        noteFill(floor);
                        if (found >= most) {
                            return;
                        }
                        openAgain(depth);
                    }
                }
            }
            known = false;
        }

        private void openDepth(int level) {
            if (level >= 0 && level < Floor.PLACES) {
                depth = level;
                placeAt[level] = board.scarcestPlace();
                choiceAt[level] = NONE;
            }
        }

        private void openAgain(int level) {
            if (level >= 0 && level < Floor.PLACES) {
                depth = level;
                board.lift(placeAt[level], choiceAt[level]);
                cost -= costOf(choiceAt[level]);
            }
        }

        private int nextTry() {
            int place = placeAt[depth];
            int choice = choiceAt[depth];
            for (int n = 0; n <= board.choices.size; n++) {
                choice = board.fittingAfter(place, choice);
                if (choice == NONE || !isPassedOver(choice)) {
                    return choice;
                }
            }
            return NONE;
        }

        private boolean isPassedOver(int choice) {
            int waiting = board.openPlaces - depth - 1;
            return leastCost && found > 0 && cost + costOf(choice) + waiting * leastOfKinds >= best;
        }

        private void noteTry(int choice) {
            stepsLeft--;
            stepsOfLife++;
            choiceAt[depth] = choice;
            cost += costOf(choice);
        }

        private int costOf(int choice) {
            return kinds.costOf(board.choices.kindOf(choice));
        }

        private void noteFill(Floor floor) {
            found++;
            best = cost;
            board.showOn(floor);
        }
    }
}
