import java.util.Random;

/** Runs of calls drawn by fixed seeds, each call asked of TileOffice and of PlainOffice: all promises together. */
public final class ModelTest {
    private static final int[] ODD = {Integer.MIN_VALUE, Integer.MAX_VALUE, -3, -2, -1, 64, 100, 1 << 30, -(1 << 30)};

    private final Random random;
    private final TileOffice x = new TileOffice();
    private final PlainOffice y = new PlainOffice();
    private final int theme;
    private final int colours;
    private String call = "";
    private int calls = 0;
    private static int asked = 0;
    private static int wrong = 0;

    private ModelTest(long seed) {
        random = new Random(seed);
        theme = (int) (seed % 7);
        colours = 1 + random.nextInt(4);
    }

    public static void main(String[] args) {
        int runs = args.length > 0 ? Integer.parseInt(args[0]) : 700;
        int first = args.length > 1 ? Integer.parseInt(args[1]) : 0;
        for (int seed = first; seed < first + runs && wrong < 20; seed++) {
            new ModelTest(seed).run(seed);
        }
        System.out.println("ModelTest: " + asked + " answers, " + wrong + " wrong");
        if (wrong > 0) {
            System.exit(1);
        }
    }

    private void run(long seed) {
        boolean good = true;
        while (good && calls < 512) {
            if (theme == 5 && calls == 0) {
                good = puzzle();
            } else if (theme == 6 && calls > 5 && random.nextInt(6) == 0) {
                good = turnedCopy();
            } else {
                good = alike(step(calls));
            }
        }
        if (good) {
            compareAll(seed);
        } else {
            wrong++;
            System.out.println("seed " + seed + ", call " + calls + ": " + call + " answered otherwise than is due");
        }
    }

    private boolean alike(long[] pair) {
        calls++;
        asked++;
        return pair[0] == pair[1];
    }

    // A floor cut from one that is filled, each piece turned by chance, so that searches have something to find.
    private boolean puzzle() {
        int rows = 2 + random.nextInt(4);
        int columns = 2 + random.nextInt(5);
        int[][] down = new int[rows + 1][columns];
        int[][] across = new int[rows][columns + 1];
        int many = 2 + random.nextInt(6);
        boolean good = alike(pair(x.floor(rows, columns), y.floor(rows, columns)));
        for (int i = 0; i < rows; i++) {
            for (int j = 0; j < columns; j++) {
                down[i + 1][j] = i + 1 < rows ? random.nextInt(many) : 0;
                across[i][j + 1] = j + 1 < columns ? random.nextInt(many) : 0;
                int[] e = {down[i][j], across[i][j + 1], down[i + 1][j], across[i][j]};
                int t = random.nextInt(4);
                int edges = Due.edges(e[t], e[(t + 1) % 4], e[(t + 2) % 4], e[(t + 3) % 4]);
                boolean mirrors = random.nextInt(5) == 0;
                int cost = random.nextInt(9);
                int k = y.kinds.size();
                good &= alike(pair(x.kind(edges, 4, mirrors, cost, Due.name("p" + (char) ('a' + k % 26) + (char) ('a' + k / 26))),
                    y.kind(edges, 4, mirrors, cost, Due.name("p" + (char) ('a' + k % 26) + (char) ('a' + k / 26)))));
                if (random.nextInt(6) == 0) {
                    good &= alike(pair(x.place(0, i, j, k, t), y.place(0, i, j, k, t)));
                } else {
                    good &= alike(pair(x.stock(0, k, 1), y.stock(0, k, 1)));
                }
            }
        }
        call = "a puzzle";
        good &= alike(pair(x.forced(0), y.forced(0)));
        good &= alike(pair(x.fill(0), y.fill(0)));
        good &= alike(pair(x.fills(0, 3), y.fills(0, 3)));
        return good && alike(pair(x.cheapest(0), y.cheapest(0)));
    }

    // A pattern and its copy by a MOVE, so that there is something congruent, and something to be found.
    private boolean turnedCopy() {
        int p = random.nextInt(Math.max(1, y.patterns.size()));
        int rows = 1 + random.nextInt(4);
        int columns = 1 + random.nextInt(4);
        int m = random.nextInt(8);
        boolean good = alike(pattern());
        int q = y.patterns.size() - 1;
        for (int i = 0; i < (m % 2 == 0 ? rows : columns); i++) {
            good &= alike(insert(q, i, m % 2 == 0 ? columns : rows, 0));
        }
        good &= alike(pair(x.region(p, 0, 0, rows, columns), y.region(p, 0, 0, rows, columns)));
        good &= alike(pair(x.turn(m), y.turn(m)));
        good &= alike(pair(x.paste(q, 0, 0), y.paste(q, 0, 0)));
        call = "a turned copy";
        for (int k = 0; k < 4; k++) {
            good &= alike(pair(x.find(p, q, k), y.find(p, q, k)));
        }
        good &= alike(pair(x.kept(q), y.kept(q)));
        return good && alike(pair(x.congruent(p, q), y.congruent(p, q)));
    }

    private void compareAll(long seed) {
        for (int p = 0; p < 16; p++) {
            for (int i = 0; i < 60; i++) {
                for (int what = 0; what < 3; what++) {
                    same(seed, "row", x.row(p, i, what), y.row(p, i, what));
                    for (int j = -31; j < 91; j++) {
                        same(seed, "at", x.at(p, i, j, what), y.at(p, i, j, what));
                    }
                }
            }
        }
        for (int f = 0; f < 6; f++) {
            for (int i = 0; i < 8; i++) {
                for (int j = 0; j < 8; j++) {
                    same(seed, "shown", x.shown(f, i, j), y.shown(f, i, j));
                }
            }
        }
        for (int what = -1; what < 10; what++) {
            same(seed, "about", x.about(what), y.about(what));
        }
    }

    private void same(long seed, String what, int got, int want) {
        if (got != want) {
            wrong++;
            System.out.println("seed " + seed + ": " + what + " answered at the end " + got + ", due is " + want);
        }
    }

    // ---- numbers: most of them as told, some at the edges, a few far off

    private int below(int n) {
        if (random.nextInt(60) == 0) {
            return ODD[random.nextInt(ODD.length)];
        }
        return random.nextInt(40) == 0 ? n : random.nextInt(Math.max(1, n));
    }

    private int between(int least, int most) {
        if (random.nextInt(60) == 0) {
            return ODD[random.nextInt(ODD.length)];
        }
        int r = random.nextInt(40);
        return r == 0 ? least - 1 : r == 1 ? most + 1 : least + random.nextInt(most - least + 1);
    }

    private int aKind() {
        return random.nextInt(8) == 0 ? -1 : below(y.kinds.size());
    }

    private int aPattern() {
        return below(y.patterns.size());
    }

    private int aRow(int p) {
        return below(y.isPattern(p) ? y.patterns.get(p).size() : 3);
    }

    private int aColumn(int p, int i) {
        if (!y.isRow(p, i) || random.nextInt(30) == 0) {
            return between(-31, 90);
        }
        PlainOffice.Line line = y.patterns.get(p).get(i);
        return line.offset + below(line.tiles.length);
    }

    // ---- calls

    private long[] step(int n) {
        if (n < 6 && theme != 5) {
            return n < 4 ? kind() : pattern();
        }
        int r = random.nextInt(100);
        switch (theme) {
            case 0: return r < 60 ? patternCall() : r < 75 ? regionCall() : r < 90 ? seenCall() : anyCall();
            case 1: return r < 15 ? patternCall() : r < 60 ? ruleCall() : r < 90 ? seenCall() : anyCall();
            case 2: return r < 90 ? floorCall() : anyCall();
            case 5: return r < 80 ? floorCall() : anyCall();
            case 6: return r < 60 ? fullCall() : r < 75 ? seenCall() : anyCall();
            case 3: return r < 25 ? fullCall() : r < 45 ? regionCall() : r < 90 ? seenCall() : anyCall();
            default: return anyCall();
        }
    }

    private long[] anyCall() {
        switch (random.nextInt(9)) {
            case 0: return kindCall();
            case 1: case 2: return patternCall();
            case 3: return regionCall();
            case 4: return ruleCall();
            case 5: return seenCall();
            case 6: return fullCall();
            default: return floorCall();
        }
    }

    private long[] kindCall() {
        int a = between(0, 7);
        int b = between(0, 7);
        int what = between(0, 8);
        long name = name();
        int k = aKind();
        int e = between(0, 4);
        switch (random.nextInt(5)) {
            case 0: return kind();
            case 1: call = "named(" + name + ")"; return pair(x.named(name), y.named(name));
            case 2: call = "edge(" + k + ", " + a + ", " + e + ")"; return pair(x.edge(k, a, e), y.edge(k, a, e));
            case 3: call = "then(" + a + ", " + b + ")"; return pair(x.then(a, b), y.then(a, b));
            default: call = "about(" + what + ")"; return pair(x.about(what), y.about(what));
        }
    }

    private long name() {
        int r = random.nextInt(30);
        if (r == 0) {
            return random.nextLong();
        }
        long name = 'a' + random.nextInt(26);
        return r < 10 ? name << 8 * random.nextInt(8) : name << 8 * (1 + random.nextInt(6)) | 'a' + random.nextInt(3);
    }

    private long[] kind() {
        int above = random.nextInt(colours);
        int right = random.nextInt(colours);
        int turns = random.nextInt(30) == 0 ? below(6) : 1 << random.nextInt(3);
        int edges = turns == 1 ? above * 0x1111 : turns == 2 ? above * 0x0101 + right * 0x1010
            : above + (right << 4) + (random.nextInt(colours) << 8) + (random.nextInt(colours) << 12);
        if (random.nextInt(20) == 0) {
            edges = random.nextInt(1 << 16);
        }
        boolean mirrors = random.nextBoolean();
        int cost = between(0, 1000) % (random.nextInt(3) == 0 ? 2000 : 5);
        long name = name();
        call = "kind(" + edges + ", " + turns + ", " + mirrors + ", " + cost + ", " + name + ")";
        return pair(x.kind(edges, turns, mirrors, cost, name), y.kind(edges, turns, mirrors, cost, name));
    }

    private long[] pattern() {
        call = "pattern()";
        return pair(x.pattern(), y.pattern());
    }

    private long[] insert(int p, int i, int length, int offset) {
        call = "insert(" + p + ", " + i + ", " + length + ", " + offset + ")";
        return pair(x.insert(p, i, length, offset), y.insert(p, i, length, offset));
    }

    private long[] put(int p, int i, int j) {
        int k = aKind();
        int m = random.nextInt(3) == 0 ? 0 : between(0, 7);
        call = "put(" + p + ", " + i + ", " + j + ", " + k + ", " + m + ")";
        return pair(x.put(p, i, j, k, m), y.put(p, i, j, k, m));
    }

    private long[] patternCall() {
        int p = aPattern();
        int i = aRow(p);
        int j = aColumn(p, i);
        int q = aPattern();
        int k = random.nextInt(3) == 0 ? i : aRow(q);
        int r = random.nextInt(100);
        int s = random.nextBoolean() ? random.nextInt() : below(3);
        int what = between(0, 2);
        if (r < 3) {
            return pattern();
        } else if (r < 20) {
            boolean small = random.nextInt(4) > 0;
            return insert(p, random.nextBoolean() ? i : i + 1, between(0, small ? 8 : 60), between(small ? -2 : -30, small ? 2 : 30));
        } else if (r < 50) {
            return put(p, i, j);
        } else if (r < 58) {
            call = "shade(" + p + ", " + i + ", " + j + ", " + s + ")";
            return pair(x.shade(p, i, j, s), y.shade(p, i, j, s));
        } else if (r < 61) {
            call = "remove(" + p + ", " + i + ")";
            return pair(x.remove(p, i), y.remove(p, i));
        } else if (r < 67) {
            call = "move(" + p + ", " + i + ", " + k + ")";
            return pair(x.move(p, i, k), y.move(p, i, k));
        } else if (r < 77) {
            call = "at(" + p + ", " + i + ", " + j + ", " + what + ")";
            return pair(x.at(p, i, j, what), y.at(p, i, j, what));
        } else if (r < 85) {
            call = "row(" + p + ", " + i + ", " + what + ")";
            return pair(x.row(p, i, what), y.row(p, i, what));
        } else if (r < 90) {
            call = "shares(" + p + ", " + i + ", " + q + ", " + k + ")";
            return pair(x.shares(p, i, q, k), y.shares(p, i, q, k));
        } else if (r < 93) {
            call = "copy(" + p + ")";
            return pair(x.copy(p), y.copy(p));
        }
        call = "undo()";
        return pair(x.undo(), y.undo());
    }

    private long[] regionCall() {
        int p = aPattern();
        int i = random.nextInt(3) == 0 ? between(-5, 60) : aRow(p);
        int j = random.nextInt(3) == 0 ? between(-40, 90) : aColumn(p, i);
        int r = random.nextInt(3);
        if (r == 0) {
            int rows = between(1, random.nextBoolean() ? 4 : 20);
            int columns = between(1, random.nextBoolean() ? 4 : 20);
            call = "region(" + p + ", " + i + ", " + j + ", " + rows + ", " + columns + ")";
            return pair(x.region(p, i, j, rows, columns), y.region(p, i, j, rows, columns));
        } else if (r == 1) {
            int m = between(0, 7);
            call = "turn(" + m + ")";
            return pair(x.turn(m), y.turn(m));
        }
        call = "paste(" + p + ", " + i + ", " + j + ")";
        return pair(x.paste(p, i, j), y.paste(p, i, j));
    }

    // Small FULL patterns of few kinds, so that MOVES keep some and find others.
    private long[] fullCall() {
        int p = aPattern();
        int size = y.isPattern(p) ? y.patterns.get(p).size() : 0;
        if (size < 4) {
            int length = size == 0 ? 1 + random.nextInt(4) : y.patterns.get(p).get(0).tiles.length;
            return insert(p, size, length, 0);
        }
        return put(p, aRow(p), aColumn(p, 0));
    }

    private long[] ruleCall() {
        int r = below(y.rules.size());
        int n = random.nextInt(100);
        if (n < 8 || y.rules.isEmpty()) {
            int rows = between(1, 3);
            int columns = random.nextBoolean() ? rows : between(1, 4);
            call = "rule(" + rows + ", " + columns + ")";
            return pair(x.rule(rows, columns), y.rule(rows, columns));
        } else if (n < 65) {
            int k = below(y.kinds.size());
            int other = aKind();
            int i = below(y.isRule(r) ? y.rules.get(r).rows : 2);
            int j = below(y.isRule(r) ? y.rules.get(r).columns : 2);
            int m = random.nextInt(3) == 0 ? 0 : between(0, 7);
            call = "becomes(" + r + ", " + k + ", " + i + ", " + j + ", " + other + ", " + m + ")";
            return pair(x.becomes(r, k, i, j, other, m), y.becomes(r, k, i, j, other, m));
        } else if (n < 75) {
            int p = aPattern();
            int steps = random.nextInt(4) == 0 ? between(0, 5) : below(3);
            call = "grow(" + p + ", " + r + ", " + steps + ")";
            return pair(x.grow(p, r, steps), y.grow(p, r, steps));
        }
        int a = aKind();
        int b = aKind();
        int steps = between(0, 60);
        call = "foretold(" + r + ", " + a + ", " + steps + ", " + b + ")";
        return pair(x.foretold(r, a, steps, b), y.foretold(r, a, steps, b));
    }

    private long[] seenCall() {
        int p = aPattern();
        int q = aPattern();
        int k = aKind();
        int what = between(0, 1);
        switch (random.nextInt(6)) {
            case 0: call = "count(" + p + ", " + k + ")"; return pair(x.count(p, k), y.count(p, k));
            case 1: call = "fits(" + p + ")"; return pair(x.fits(p), y.fits(p));
            case 2: call = "period(" + p + ", " + what + ")"; return pair(x.period(p, what), y.period(p, what));
            case 3: call = "kept(" + p + ")"; return pair(x.kept(p), y.kept(p));
            case 4: call = "congruent(" + p + ", " + q + ")"; return pair(x.congruent(p, q), y.congruent(p, q));
            default:
                int n = below(6);
                call = "find(" + p + ", " + q + ", " + n + ")";
                return pair(x.find(p, q, n), y.find(p, q, n));
        }
    }

    private long[] floorCall() {
        int f = below(y.floors.size());
        int n = random.nextInt(100);
        int i = below(y.isFloor(f) ? y.floors.get(f).rows : 2);
        int j = below(y.isFloor(f) ? y.floors.get(f).columns : 2);
        int k = random.nextInt(3) == 0 ? -2 : aKind();
        if (n < 4 || y.floors.isEmpty()) {
            int rows = between(1, 5);
            int columns = between(1, random.nextInt(4) == 0 ? 8 : 4);
            call = "floor(" + rows + ", " + columns + ")";
            return pair(x.floor(rows, columns), y.floor(rows, columns));
        } else if (n < 30) {
            int m = between(0, 7);
            call = "place(" + f + ", " + i + ", " + j + ", " + k + ", " + m + ")";
            return pair(x.place(f, i, j, k, m), y.place(f, i, j, k, m));
        } else if (n < 55) {
            int many = random.nextInt(3) == 0 ? between(0, 99) : below(9);
            k = below(y.kinds.size());
            call = "stock(" + f + ", " + k + ", " + many + ")";
            return pair(x.stock(f, k, many), y.stock(f, k, many));
        } else if (n < 65) {
            call = "fill(" + f + ")";
            return pair(x.fill(f), y.fill(f));
        } else if (n < 70) {
            int most = random.nextBoolean() ? between(1, 1000) : below(5);
            call = "fills(" + f + ", " + most + ")";
            return pair(x.fills(f, most), y.fills(f, most));
        } else if (n < 75) {
            call = "cheapest(" + f + ")";
            return pair(x.cheapest(f), y.cheapest(f));
        } else if (n < 83) {
            call = "forced(" + f + ")";
            return pair(x.forced(f), y.forced(f));
        } else if (n < 87) {
            call = "about(8)";
            return pair(x.about(8), y.about(8));
        }
        call = "shown(" + f + ", " + i + ", " + j + ")";
        return pair(x.shown(f, i, j), y.shown(f, i, j));
    }

    private static long[] pair(long got, long want) {
        return new long[] {got, want};
    }

    private static long[] pair(boolean got, boolean want) {
        return new long[] {got ? 1 : 0, want ? 1 : 0};
    }
}
