import java.lang.management.ManagementFactory;

/** Runs of 512 calls stay far within the room that one run has: 600,000 objects, 7.3 million elements. */
public final class RoomTest {
    private static final Due due = new Due();
    // A tenth of the room if each of its elements took four bytes.
    private static final long MOST_BYTES = 3_000_000;

    public static void main(String[] args) {
        within("pastes", RoomTest::pastes);
        within("finds", RoomTest::finds);
        within("searches", RoomTest::searches);
        within("growths", RoomTest::growths);
        due.end("RoomTest");
    }

    private static void within(String name, Runnable run) {
        com.sun.management.ThreadMXBean bean = (com.sun.management.ThreadMXBean) ManagementFactory.getThreadMXBean();
        long thread = Thread.currentThread().getId();
        long before = bean.getThreadAllocatedBytes(thread);
        run.run();
        long bytes = bean.getThreadAllocatedBytes(thread) - before;
        due.yes(name + " take " + bytes + " bytes", bytes <= MOST_BYTES);
    }

    private static void pastes() {
        TileOffice x = new TileOffice();
        x.kind(0, 1, false, 0, 'a');
        x.pattern();
        for (int i = 0; i < 60; i++) {
            x.insert(0, i, 60, 0);
        }
        x.region(0, 0, 0, 20, 20);
        for (int n = 0; n < 440; n++) {
            x.paste(0, n % 41, n % 41);
        }
    }

    private static void finds() {
        TileOffice x = new TileOffice();
        x.kind(0, 1, false, 0, 'a');
        x.pattern();
        x.pattern();
        for (int i = 0; i < 30; i++) {
            x.insert(0, i, 60, 0);
            x.insert(1, i, 30, 0);
        }
        for (int n = 0; n < 100; n++) {
            x.find(0, 1, n);
            x.kept(0);
            x.congruent(0, 1);
            x.region(0, 0, 0, 20, 20);
            x.turn(n % 8);
        }
    }

    private static void searches() {
        TileOffice x = new TileOffice();
        for (int k = 0; k < 40; k++) {
            x.kind(Due.edges(k % 3, k % 5, k % 2, k % 7), 4, true, k, Due.name("k" + (char) ('a' + k % 26) + (char) ('a' + k / 26)));
        }
        for (int f = 0; f < 6; f++) {
            x.floor(8, 8);
            for (int k = 0; k < 40; k++) {
                x.stock(f, k, 1 + k % 3);
            }
        }
        for (int n = 0; n < 200; n++) {
            x.cheapest(n % 6);
            x.forced(n % 6);
        }
    }

    private static void growths() {
        TileOffice x = new TileOffice();
        x.kind(Due.edges(0, 1, 2, 3), 4, true, 0, 'a');
        x.pattern();
        for (int i = 0; i < 15; i++) {
            x.insert(0, i, 15, 0);
        }
        x.rule(2, 2);
        for (int n = 0; n < 4; n++) {
            x.becomes(0, 0, n / 2, n % 2, 0, n);
        }
        for (int n = 0; n < 200; n++) {
            x.grow(0, 0, n % 4);
            x.foretold(0, 0, 60, 0);
        }
    }
}
