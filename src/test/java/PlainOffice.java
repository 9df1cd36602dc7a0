import java.math.BigInteger;
import java.util.ArrayList;
import java.util.Arrays;
import java.util.HashSet;
import java.util.List;
import java.util.Set;
import java.util.TreeSet;

/** The document once more, written with other means and without thought of speed, for ModelTest to compare with. */
final class PlainOffice {
    record Kind(int[] edges, int turns, boolean mirrors, int cost, String name) { }

    record Tile(int kind, int move, int shade) { }

    record Spot(int i, int j) { }

    record Placed(int kind, int move) { }

    /** A row; a null is an EMPTY CELL. */
    static final class Line {
        final int offset;
        final Tile[] tiles;

        Line(int offset, Tile[] tiles) {
            this.offset = offset;
            this.tiles = tiles;
        }

        boolean has(long j) {
            return j >= offset && j < (long) offset + tiles.length;
        }
    }

    record Change(int pattern, List<Line> lines) { }

    /** One CELL of THE REGION, or none. */
    record Taken(boolean there, Tile tile) { }

    static final class Growth {
        int rows;
        int columns;
        Tile[][][] blocks;
    }

    static final class Ground {
        int rows;
        int columns;
        boolean[][] hole;
        Placed[][] given;
        Placed[][] laid;
        int[] stock = new int[40];
    }

    final List<Kind> kinds = new ArrayList<>();
    final List<List<Line>> patterns = new ArrayList<>();
    final List<Change> changes = new ArrayList<>();
    final List<Growth> rules = new ArrayList<>();
    final List<Ground> floors = new ArrayList<>();
    Taken[][] region = null;
    int made = 0;
    int life = 0;

    // ---- kinds

    static String letters(long name) {
        StringBuilder text = new StringBuilder();
        for (int n = 7; n >= 0; n--) {
            int b = (int) (name >> (8 * n)) & 0xFF;
            if (b != 0) {
                text.append((char) b);
            }
        }
        return text.toString();
    }

    int kind(int edges, int turns, boolean mirrors, int cost, long name) {
        if ((edges & ~0xFFFF) != 0 || !List.of(1, 2, 4).contains(turns) || cost < 0 || cost > 1000) {
            return -1;
        }
        int[] e = new int[4];
        for (int n = 0; n < 4; n++) {
            e[n] = edges >> (4 * n) & 15;
        }
        if (turns <= 2 && (e[0] != e[2] || e[1] != e[3]) || turns == 1 && e[0] != e[1]) {
            return -1;
        }
        if (!letters(name).matches("[a-z]{1,8}") || named(name) >= 0 || kinds.size() == 40) {
            return -1;
        }
        kinds.add(new Kind(e, turns, mirrors, cost, letters(name)));
        return kinds.size() - 1;
    }

    int named(long name) {
        for (int k = 0; k < kinds.size(); k++) {
            if (kinds.get(k).name().equals(letters(name))) {
                return k;
            }
        }
        return -1;
    }

    boolean isKind(int kind) {
        return kind >= 0 && kind < kinds.size();
    }

    static boolean isMove(int m) {
        return m >= 0 && m <= 7;
    }

    int lies(int kind, int m) {
        Kind k = kinds.get(kind);
        return m % 4 % k.turns() + (m / 4 == 1 && k.mirrors() ? 4 : 0);
    }

    int[] edgesOf(int kind, int m) {
        int[] e = kinds.get(kind).edges().clone();
        if (m >= 4) {
            int keep = e[1];
            e[1] = e[3];
            e[3] = keep;
        }
        for (int t = 0; t < m % 4; t++) {
            e = new int[] {e[3], e[0], e[1], e[2]};
        }
        return e;
    }

    int edge(int kind, int move, int e) {
        if (!isKind(kind) || !isMove(move) || e < 0 || e > 4) {
            return -1;
        }
        int m = lies(kind, move);
        return e == 4 ? m : edgesOf(kind, m)[e];
    }

    int then(int a, int b) {
        if (!isMove(a) || !isMove(b)) {
            return -1;
        }
        int turns = b % 4 + (b >= 4 ? 4 - a % 4 : a % 4);
        boolean mirrored = a >= 4 ^ b >= 4;
        return turns % 4 + (mirrored ? 4 : 0);
    }

    Tile moved(Tile t, int m) {
        return t == null ? null : new Tile(t.kind(), lies(t.kind(), then(t.move(), m)), t.shade());
    }

    // ---- patterns

    boolean isPattern(int p) {
        return p >= 0 && p < patterns.size();
    }

    boolean isRow(int p, long i) {
        return isPattern(p) && i >= 0 && i < patterns.get(p).size();
    }

    boolean isCell(int p, long i, long j) {
        return isRow(p, i) && patterns.get(p).get((int) i).has(j);
    }

    Tile tile(int p, long i, long j) {
        Line line = patterns.get(p).get((int) i);
        return line.tiles[(int) (j - line.offset)];
    }

    int pattern() {
        if (patterns.size() == 16) {
            return -1;
        }
        patterns.add(new ArrayList<>());
        return patterns.size() - 1;
    }

    void changing(int p) {
        changes.add(new Change(p, new ArrayList<>(patterns.get(p))));
        if (changes.size() > 40) {
            changes.remove(0);
        }
    }

    static boolean isShape(int length, int offset) {
        return length >= 0 && length <= 60 && offset >= -30 && offset <= 30;
    }

    boolean insert(int p, int i, int length, int offset) {
        if (!isPattern(p) || i < 0 || i > patterns.get(p).size() || patterns.get(p).size() == 60) {
            return false;
        }
        if (!isShape(length, offset) || made == 6000) {
            return false;
        }
        changing(p);
        made++;
        patterns.get(p).add(i, new Line(offset, new Tile[length]));
        return true;
    }

    boolean remove(int p, int i) {
        if (!isRow(p, i)) {
            return false;
        }
        changing(p);
        patterns.get(p).remove(i);
        return true;
    }

    boolean move(int p, int i, int to) {
        if (!isRow(p, i) || to < 0 || to > patterns.get(p).size() - 1) {
            return false;
        }
        changing(p);
        Line line = patterns.get(p).remove(i);
        patterns.get(p).add(to, line);
        return true;
    }

    boolean set(int p, int i, int j, Tile t) {
        if (made == 6000) {
            return false;
        }
        changing(p);
        made++;
        Line old = patterns.get(p).get(i);
        Line line = new Line(old.offset, old.tiles.clone());
        line.tiles[j - line.offset] = t;
        patterns.get(p).set(i, line);
        return true;
    }

    boolean put(int p, int i, int j, int kind, int move) {
        if (!isCell(p, i, j)) {
            return false;
        }
        if (kind == -1) {
            return set(p, i, j, null);
        }
        return isKind(kind) && isMove(move) && set(p, i, j, new Tile(kind, lies(kind, move), 0));
    }

    boolean shade(int p, int i, int j, int s) {
        if (!isCell(p, i, j) || tile(p, i, j) == null) {
            return false;
        }
        Tile t = tile(p, i, j);
        return set(p, i, j, new Tile(t.kind(), t.move(), (short) s));
    }

    int at(int p, int i, int j, int what) {
        if (!isPattern(p) || what < 0 || what > 2) {
            return -1;
        }
        if (!isCell(p, i, j)) {
            return what == 0 ? -2 : 0;
        }
        Tile t = tile(p, i, j);
        if (t == null) {
            return what == 0 ? -1 : 0;
        }
        return new int[] {t.kind(), t.move(), t.shade()}[what];
    }

    int row(int p, int i, int what) {
        if (!isRow(p, i) || what < 0 || what > 2) {
            return -1;
        }
        Line line = patterns.get(p).get(i);
        if (what < 2) {
            return what == 0 ? line.tiles.length : line.offset;
        }
        int n = 0;
        for (List<Line> pattern : patterns) {
            for (Line other : pattern) {
                n += other == line ? 1 : 0;
            }
        }
        return n;
    }

    boolean shares(int p, int i, int q, int k) {
        return isRow(p, i) && isRow(q, k) && patterns.get(p).get(i) == patterns.get(q).get(k);
    }

    int copy(int p) {
        if (!isPattern(p) || patterns.size() == 16) {
            return -1;
        }
        patterns.add(new ArrayList<>(patterns.get(p)));
        return patterns.size() - 1;
    }

    int undo() {
        if (changes.isEmpty()) {
            return -1;
        }
        Change last = changes.remove(changes.size() - 1);
        patterns.set(last.pattern(), last.lines());
        return changes.size();
    }

    // ---- THE REGION

    int region(int p, int i, int j, int rows, int columns) {
        if (!isPattern(p) || rows < 1 || rows > 20 || columns < 1 || columns > 20) {
            return -1;
        }
        int n = 0;
        region = new Taken[rows][columns];
        for (int a = 0; a < rows; a++) {
            for (int b = 0; b < columns; b++) {
                boolean there = isCell(p, (long) i + a, (long) j + b);
                region[a][b] = new Taken(there, there ? tile(p, (long) i + a, (long) j + b) : null);
                n += region[a][b].tile() != null ? 1 : 0;
            }
        }
        return n;
    }

    boolean turn(int move) {
        if (region == null || !isMove(move)) {
            return false;
        }
        if (move >= 4) {
            Taken[][] next = new Taken[region.length][region[0].length];
            for (int i = 0; i < region.length; i++) {
                for (int j = 0; j < region[0].length; j++) {
                    next[i][region[0].length - 1 - j] = region[i][j];
                }
            }
            region = next;
        }
        for (int t = 0; t < move % 4; t++) {
            Taken[][] next = new Taken[region[0].length][region.length];
            for (int i = 0; i < region.length; i++) {
                for (int j = 0; j < region[0].length; j++) {
                    next[j][region.length - 1 - i] = region[i][j];
                }
            }
            region = next;
        }
        for (Taken[] line : region) {
            for (int j = 0; j < line.length; j++) {
                line[j] = new Taken(line[j].there(), moved(line[j].tile(), move));
            }
        }
        return true;
    }

    int paste(int p, int i, int j) {
        if (!isPattern(p) || region == null) {
            return -1;
        }
        int came = 0;
        Set<Long> rows = new HashSet<>();
        for (int a = 0; a < region.length; a++) {
            for (int b = 0; b < region[0].length; b++) {
                if (region[a][b].there() && isCell(p, (long) i + a, (long) j + b)) {
                    came++;
                    rows.add((long) i + a);
                }
            }
        }
        if (made + rows.size() > 6000) {
            return -1;
        }
        if (came == 0) {
            return 0;
        }
        changing(p);
        for (long r : rows) {
            Line old = patterns.get(p).get((int) r);
            Line line = new Line(old.offset, old.tiles.clone());
            for (int b = 0; b < region[0].length; b++) {
                Taken taken = region[(int) (r - i)][b];
                if (taken.there() && line.has((long) j + b)) {
                    line.tiles[j + b - line.offset] = taken.tile();
                }
            }
            patterns.get(p).set((int) r, line);
            made++;
        }
        return came;
    }

    // ---- rules

    int rule(int rows, int columns) {
        if (rules.size() == 8 || rows < 1 || rows > 4 || columns < 1 || columns > 4) {
            return -1;
        }
        Growth g = new Growth();
        g.rows = rows;
        g.columns = columns;
        g.blocks = new Tile[40][rows][columns];
        rules.add(g);
        return rules.size() - 1;
    }

    boolean isRule(int r) {
        return r >= 0 && r < rules.size();
    }

    boolean becomes(int r, int kind, int i, int j, int other, int move) {
        if (!isRule(r) || !isKind(kind)) {
            return false;
        }
        Growth g = rules.get(r);
        if (i < 0 || i >= g.rows || j < 0 || j >= g.columns) {
            return false;
        }
        if (other != -1 && (!isKind(other) || !isMove(move))) {
            return false;
        }
        g.blocks[kind][i][j] = other == -1 ? null : new Tile(other, lies(other, move), 0);
        return true;
    }

    Tile[][] movedBlock(Tile[][] block, int m) {
        int rows = block.length;
        int columns = block[0].length;
        Tile[][] now = new Tile[rows][columns];
        for (int i = 0; i < rows; i++) {
            for (int j = 0; j < columns; j++) {
                now[i][m >= 4 ? columns - 1 - j : j] = moved(block[i][j], m);
            }
        }
        for (int t = 0; t < m % 4; t++) {
            Tile[][] next = new Tile[now[0].length][now.length];
            for (int i = 0; i < now.length; i++) {
                for (int j = 0; j < now[0].length; j++) {
                    next[j][now.length - 1 - i] = now[i][j];
                }
            }
            now = next;
        }
        return now;
    }

    /** One step; null if it is refused. */
    List<Line> grown(List<Line> lines, Growth g) {
        List<Line> next = new ArrayList<>();
        for (Line line : lines) {
            int length = line.tiles.length * g.columns;
            int offset = line.offset * g.columns;
            if (!isShape(length, offset)) {
                return null;
            }
            Tile[][] tiles = new Tile[g.rows][length];
            for (int n = 0; n < line.tiles.length; n++) {
                Tile t = line.tiles[n];
                if (t == null) {
                    continue;
                }
                if (g.rows != g.columns && t.move() % 2 == 1) {
                    return null;
                }
                Tile[][] block = movedBlock(g.blocks[t.kind()], t.move());
                for (int a = 0; a < g.rows; a++) {
                    for (int b = 0; b < g.columns; b++) {
                        Tile c = block[a][b];
                        tiles[a][n * g.columns + b] = c == null ? null : new Tile(c.kind(), c.move(), t.shade());
                    }
                }
            }
            for (Tile[] row : tiles) {
                next.add(new Line(offset, row));
            }
        }
        return next.size() > 60 ? null : next;
    }

    int grow(int p, int r, int steps) {
        if (!isPattern(p) || !isRule(r) || steps < 0 || steps > 5 || patterns.size() == 16) {
            return -1;
        }
        List<Line> now = new ArrayList<>();
        for (Line line : patterns.get(p)) {
            now.add(new Line(line.offset, line.tiles.clone()));
        }
        for (int n = 0; n < steps; n++) {
            now = grown(now, rules.get(r));
            if (now == null) {
                return -1;
            }
        }
        if (made + now.size() > 6000) {
            return -1;
        }
        made += now.size();
        patterns.add(now);
        return patterns.size() - 1;
    }

    long foretold(int r, int a, int steps, int b) {
        if (!isRule(r) || !isKind(a) || !isKind(b) || steps < 0 || steps > 60) {
            return -1;
        }
        BigInteger[] many = new BigInteger[40];
        Arrays.fill(many, BigInteger.ZERO);
        many[a] = BigInteger.ONE;
        for (int n = 0; n < steps; n++) {
            BigInteger[] next = new BigInteger[40];
            Arrays.fill(next, BigInteger.ZERO);
            for (int k = 0; k < 40; k++) {
                for (Tile[] line : rules.get(r).blocks[k]) {
                    for (Tile t : line) {
                        if (t != null) {
                            next[t.kind()] = next[t.kind()].add(many[k]);
                        }
                    }
                }
            }
            many = next;
        }
        return many[b].bitLength() > 63 ? -2 : many[b].longValueExact();
    }

    // ---- SEEN

    static boolean alike(Tile a, Tile b) {
        return a == null ? b == null : a.equals(b);
    }

    List<Spot> spots(int p) {
        List<Spot> all = new ArrayList<>();
        for (int i = 0; i < patterns.get(p).size(); i++) {
            Line line = patterns.get(p).get(i);
            for (int n = 0; n < line.tiles.length; n++) {
                all.add(new Spot(i, line.offset + n));
            }
        }
        return all;
    }

    int count(int p, int kind) {
        if (!isPattern(p) || kind != -1 && !isKind(kind)) {
            return -1;
        }
        int n = 0;
        for (Spot s : spots(p)) {
            Tile t = tile(p, s.i(), s.j());
            n += (t == null ? -1 : t.kind()) == kind ? 1 : 0;
        }
        return n;
    }

    boolean meets(int p, Spot s, int i, int j, int side) {
        if (!isCell(p, i, j) || tile(p, i, j) == null || tile(p, s.i(), s.j()) == null) {
            return true;
        }
        Tile here = tile(p, s.i(), s.j());
        Tile there = tile(p, i, j);
        return edgesOf(here.kind(), here.move())[side] == edgesOf(there.kind(), there.move())[(side + 2) % 4];
    }

    int fits(int p) {
        if (!isPattern(p)) {
            return -1;
        }
        int place = 0;
        for (Spot s : spots(p)) {
            boolean right = meets(p, s, s.i(), s.j() + 1, 1);
            boolean below = meets(p, s, s.i() + 1, s.j(), 2);
            if (!right || !below) {
                return 1 + 2 * place + (right ? 1 : 0);
            }
            place++;
        }
        return 0;
    }

    int period(int p, int what) {
        if (!isPattern(p) || what != 0 && what != 1) {
            return -1;
        }
        for (int a = 1;; a++) {
            boolean good = true;
            for (Spot s : spots(p)) {
                int i = s.i() + (what == 0 ? a : 0);
                int j = s.j() + (what == 1 ? a : 0);
                good &= !isCell(p, i, j) || alike(tile(p, s.i(), s.j()), tile(p, i, j));
            }
            if (good) {
                return a;
            }
        }
    }

    /** A FULL pattern as a block; null if it is none. */
    Tile[][] full(int p) {
        List<Line> lines = patterns.get(p);
        Set<Integer> lengths = new TreeSet<>();
        boolean straight = true;
        for (Line line : lines) {
            lengths.add(line.tiles.length);
            straight &= line.offset == 0;
        }
        if (!straight || lengths.size() != 1 || lengths.contains(0)) {
            return null;
        }
        Tile[][] block = new Tile[lines.size()][];
        for (int i = 0; i < block.length; i++) {
            block[i] = lines.get(i).tiles;
        }
        return block;
    }

    static boolean same(Tile[][] a, Tile[][] b) {
        return Arrays.deepEquals(a, b);
    }

    int kept(int p) {
        if (!isPattern(p)) {
            return -1;
        }
        Tile[][] block = full(p);
        int bits = 0;
        for (int m = 0; block != null && m < 8; m++) {
            bits += same(movedBlock(block, m), block) ? 1 << m : 0;
        }
        return bits;
    }

    int congruent(int p, int q) {
        if (!isPattern(p) || !isPattern(q) || full(p) == null || full(q) == null) {
            return -1;
        }
        for (int m = 0; m < 8; m++) {
            if (same(movedBlock(full(p), m), full(q))) {
                return m;
            }
        }
        return -1;
    }

    int find(int p, int q, int k) {
        if (!isPattern(p) || !isPattern(q) || full(q) == null || k < 0) {
            return -1;
        }
        Tile[][][] turned = new Tile[8][][];
        for (int m = 0; m < 8; m++) {
            turned[m] = movedBlock(full(q), m);
        }
        int n = 0;
        for (Spot s : spots(p)) {
            for (int m = 0; m < 8; m++) {
                if (found(p, s, turned[m])) {
                    if (n == k) {
                        return 1000 * s.i() + 10 * (s.j() - patterns.get(p).get(s.i()).offset) + m;
                    }
                    n++;
                }
            }
        }
        return -1;
    }

    boolean found(int p, Spot s, Tile[][] block) {
        for (int a = 0; a < block.length; a++) {
            for (int b = 0; b < block[0].length; b++) {
                if (!isCell(p, s.i() + a, s.j() + b) || !alike(tile(p, s.i() + a, s.j() + b), block[a][b])) {
                    return false;
                }
            }
        }
        return true;
    }

    // ---- floors

    boolean isFloor(int f) {
        return f >= 0 && f < floors.size();
    }

    boolean isPlace(int f, int i, int j) {
        return isFloor(f) && i >= 0 && i < floors.get(f).rows && j >= 0 && j < floors.get(f).columns;
    }

    int floor(int rows, int columns) {
        if (floors.size() == 6 || rows < 1 || rows > 8 || columns < 1 || columns > 8) {
            return -1;
        }
        Ground g = new Ground();
        g.rows = rows;
        g.columns = columns;
        g.hole = new boolean[rows][columns];
        g.given = new Placed[rows][columns];
        g.laid = new Placed[rows][columns];
        floors.add(g);
        return floors.size() - 1;
    }

    boolean place(int f, int i, int j, int kind, int move) {
        if (!isPlace(f, i, j) || kind < -2 || kind >= kinds.size() || kind >= 0 && !isMove(move)) {
            return false;
        }
        Ground g = floors.get(f);
        g.hole[i][j] = kind == -2;
        g.given[i][j] = kind >= 0 ? new Placed(kind, lies(kind, move)) : null;
        g.laid[i][j] = null;
        return true;
    }

    boolean stock(int f, int kind, int n) {
        if (!isFloor(f) || !isKind(kind) || n < 0 || n > 99) {
            return false;
        }
        floors.get(f).stock[kind] = n;
        return true;
    }

    int shown(int f, int i, int j) {
        if (!isPlace(f, i, j) || floors.get(f).hole[i][j]) {
            return -2;
        }
        Ground g = floors.get(f);
        Placed t = g.given[i][j] != null ? g.given[i][j] : g.laid[i][j];
        return t == null ? -1 : 8 * t.kind() + t.move();
    }

    /** A search's state, looked through anew for every question. */
    private final class Hunt {
        final Ground g;
        final Placed[][] lying;
        final int[] left;
        final int most;
        final boolean cheap;
        int steps = 0;
        int found = 0;
        int best = -1;
        boolean out = false;

        Hunt(Ground g, int most, boolean cheap) {
            this.g = g;
            this.most = most;
            this.cheap = cheap;
            lying = new Placed[g.rows][g.columns];
            for (int i = 0; i < g.rows; i++) {
                lying[i] = g.given[i].clone();
            }
            left = g.stock.clone();
        }

        boolean fitsAt(int i, int j, Placed t) {
            int[] e = edgesOf(t.kind(), t.move());
            int[][] beside = {{i - 1, j}, {i, j + 1}, {i + 1, j}, {i, j - 1}};
            for (int side = 0; side < 4; side++) {
                int a = beside[side][0];
                int b = beside[side][1];
                if (a >= 0 && a < g.rows && b >= 0 && b < g.columns && lying[a][b] != null
                    && edgesOf(lying[a][b].kind(), lying[a][b].move())[(side + 2) % 4] != e[side]) {
                    return false;
                }
            }
            return true;
        }

        List<Placed> fitting(int i, int j) {
            List<Placed> all = new ArrayList<>();
            for (int k = 0; k < kinds.size(); k++) {
                for (int m = 0; m < 8 && left[k] > 0; m++) {
                    if (lies(k, m) == m && fitsAt(i, j, new Placed(k, m))) {
                        all.add(new Placed(k, m));
                    }
                }
            }
            return all;
        }

        List<Spot> waiting() {
            List<Spot> all = new ArrayList<>();
            for (int i = 0; i < g.rows; i++) {
                for (int j = 0; j < g.columns; j++) {
                    if (!g.hole[i][j] && lying[i][j] == null) {
                        all.add(new Spot(i, j));
                    }
                }
            }
            return all;
        }

        boolean givenFit() {
            for (int i = 0; i < g.rows; i++) {
                for (int j = 0; j < g.columns; j++) {
                    if (lying[i][j] != null && !fitsAt(i, j, lying[i][j])) {
                        return false;
                    }
                }
            }
            return true;
        }

        void show() {
            for (int i = 0; i < g.rows; i++) {
                for (int j = 0; j < g.columns; j++) {
                    g.laid[i][j] = g.given[i][j] == null ? lying[i][j] : null;
                }
            }
        }

        int costOfLaid() {
            int sum = 0;
            for (int i = 0; i < g.rows; i++) {
                for (int j = 0; j < g.columns; j++) {
                    sum += lying[i][j] != null && g.given[i][j] == null ? kinds.get(lying[i][j].kind()).cost() : 0;
                }
            }
            return sum;
        }

        int leastCost() {
            int least = Integer.MAX_VALUE;
            for (int k = 0; k < kinds.size(); k++) {
                least = g.stock[k] > 0 ? Math.min(least, kinds.get(k).cost()) : least;
            }
            return least;
        }

        /** Whether the search goes on. */
        boolean go() {
            List<Spot> open = waiting();
            if (open.isEmpty()) {
                found++;
                best = costOfLaid();
                show();
                return found < most;
            }
            Spot at = null;
            List<Placed> tries = null;
            for (Spot s : open) {
                List<Placed> here = fitting(s.i(), s.j());
                if (tries == null || here.size() < tries.size()) {
                    at = s;
                    tries = here;
                }
            }
            for (Placed t : tries) {
                if (cheap && found > 0) {
                    long ahead = costOfLaid() + kinds.get(t.kind()).cost() + (open.size() - 1L) * leastCost();
                    if (ahead >= best) {
                        continue;
                    }
                }
                if (steps == 30000 || life == 600000) {
                    out = true;
                    return false;
                }
                steps++;
                life++;
                lying[at.i()][at.j()] = t;
                left[t.kind()]--;
                boolean on = go();
                left[t.kind()]++;
                lying[at.i()][at.j()] = null;
                if (!on) {
                    return false;
                }
            }
            return true;
        }

        int force() {
            int got = 0;
            while (true) {
                List<Spot> where = new ArrayList<>();
                List<Placed> what = new ArrayList<>();
                for (Spot s : waiting()) {
                    List<Placed> here = fitting(s.i(), s.j());
                    if (here.size() == 1) {
                        where.add(s);
                        what.add(here.get(0));
                    }
                }
                int now = 0;
                for (int n = 0; n < where.size(); n++) {
                    Spot s = where.get(n);
                    Placed t = what.get(n);
                    if (left[t.kind()] > 0 && fitsAt(s.i(), s.j(), t)) {
                        lying[s.i()][s.j()] = t;
                        left[t.kind()]--;
                        now++;
                    }
                }
                if (now == 0) {
                    return got;
                }
                got += now;
            }
        }
    }

    private Hunt hunt(int f, int most, boolean cheap) {
        Ground g = floors.get(f);
        g.laid = new Placed[g.rows][g.columns];
        Hunt h = new Hunt(g, most, cheap);
        if (h.givenFit()) {
            h.go();
        }
        return h;
    }

    int fill(int f) {
        if (!isFloor(f)) {
            return -1;
        }
        Hunt h = hunt(f, 1, false);
        return h.found == 1 ? 1 : h.out ? 2 : 0;
    }

    int fills(int f, int most) {
        if (!isFloor(f) || most < 1 || most > 1000) {
            return -1;
        }
        Hunt h = hunt(f, most, false);
        return h.out ? -2 : h.found;
    }

    int cheapest(int f) {
        if (!isFloor(f)) {
            return -1;
        }
        Hunt h = hunt(f, Integer.MAX_VALUE, true);
        return h.out ? -3 : h.found == 0 ? -2 : h.best;
    }

    int forced(int f) {
        if (!isFloor(f)) {
            return -1;
        }
        Ground g = floors.get(f);
        Hunt h = new Hunt(g, 0, false);
        int got = h.force();
        h.show();
        return got;
    }

    int about(int what) {
        int[] all = {kinds.size(), patterns.size(), rules.size(), floors.size(), made,
            region == null ? 0 : region.length, region == null ? 0 : region[0].length, changes.size(), life};
        return what >= 0 && what < all.length ? all[what] : -1;
    }
}
