import java.util.Random;

/** A domain without cycles, written down in rows: it is told to an object, and its plans are listed by PlainPlans. */
final class PlainDomain {
    final int[][] primitives;
    final Way[][] ways;
    final int start;
    final int[] aims;

    static final class Way {
        int number;
        int need;
        int lack;
        int[] parts;

        boolean holds(int facts) {
            return PlainDomain.holds(need, lack, facts);
        }
    }

    private final Random random;
    private final int factBits;

    PlainDomain(long seed) {
        random = new Random(seed);
        factBits = random.nextInt(6);
        primitives = new int[1 + random.nextInt(6)][];
        for (int i = 0; i < primitives.length; i++) {
            int need = fewBits();
            primitives[i] = new int[] {need, fewBits() & ~need, bits() & bits(), bits() & bits(), random.nextInt(101)};
        }
        ways = new Way[1 + random.nextInt(6)][];
        for (int i = 0; i < ways.length; i++) {
            ways[i] = new Way[random.nextInt(12) == 0 ? 0 : 1 + random.nextInt(3)];
            for (int j = 0; j < ways[i].length; j++) {
                ways[i][j] = someWay(i);
            }
        }
        start = bits();
        aims = new int[1 + random.nextInt(6)];
        for (int i = 0; i < aims.length; i++) {
            aims[i] = someTask(-1);
        }
    }

    static boolean holds(int need, int lack, int facts) {
        return (~facts & need) == 0 && (facts & lack) == 0;
    }

    static boolean isPrimitive(int task) {
        return task < 16;
    }

    boolean canDo(int task, int facts) {
        return holds(primitives[task][0], primitives[task][1], facts);
    }

    int factsAfter(int task, int facts) {
        return facts & ~primitives[task][3] | primitives[task][2];
    }

    /** The first methods of all tasks come first, then the second ones: so numbers and places are not alike. */
    void tell(TaskWeaver x) {
        for (int[] row : primitives) {
            x.primitive(row[0], row[1], row[2], row[3], row[4]);
        }
        for (int i = 0; i < ways.length; i++) {
            x.compound();
        }
        for (int place = 0; place < 5; place++) {
            for (int i = ways.length - 1; i >= 0; i--) {
                if (place < ways[i].length) {
                    tellWay(x, 16 + i, ways[i][place]);
                }
            }
        }
        x.start(start);
        for (int aim : aims) {
            x.aim(aim);
        }
    }

    private static void tellWay(TaskWeaver x, int task, Way way) {
        way.number = x.method(task, way.need, way.lack);
        for (int part : way.parts) {
            x.part(way.number, part);
        }
    }

    private int bits() {
        return random.nextInt(1 << factBits);
    }

    private int fewBits() {
        return bits() & bits() & bits();
    }

    private Way someWay(int compound) {
        Way way = new Way();
        way.need = fewBits();
        way.lack = fewBits() & ~way.need;
        way.parts = new int[random.nextInt(6)];
        for (int i = 0; i < way.parts.length; i++) {
            way.parts[i] = someTask(compound);
        }
        return way;
    }

    /** A primitive task, or a compound one behind the one whose part it will be. */
    private int someTask(int behind) {
        int behindIt = ways.length - 1 - behind;
        if (behindIt == 0 || random.nextInt(2) == 0) {
            return random.nextInt(primitives.length);
        }
        return 17 + behind + random.nextInt(behindIt);
    }
}
