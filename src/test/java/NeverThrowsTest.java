import java.util.Random;

/** Any arguments in any state: nothing but the exception of door() comes out, and the same calls give the same answers. */
public final class NeverThrowsTest extends Kit {
    private static final int[] EDGES = {Integer.MIN_VALUE, Integer.MIN_VALUE + 1, -1000, -3, -2, -1, 0, 1, 2, 3, 4, 5, 9, 10, 11, 13, 14, 99,
        100, 511, 940, 1000, 1 << 16, Integer.MAX_VALUE - 1, Integer.MAX_VALUE};
    private static final String[] HOUSES = {
        "", "row f;bed 0 0;", "row w;door da 0 0 along 1 0;",
        "row wwwwwwwwww;row wffffffffw;row wffffffffw;row wffffffffw;row wwwwwwwwww;row wffffffffw;row wffffffffw;row wffffffffw;"
            + "row wffffffffw;row wwwwwwwwww;door da 1 4 along 3 0 may 1 may 2 may 3;door db 5 4 along 3 3 may 0 costs 5;"
            + "door dc 0 1 across 3 2 whole;door dd 9 6 across 3 0 may 1;door de 8 4 along 1 2;draught da db dc;draught dc dd de;"
            + "draught de da db;bed 4 2;",
        "row ffffffffff;row wwwwwwwwww;row ffffffffff;row ffffffffff;bed 3 3;door da 0 1 along 2 2 may 0;door db 2 1 along 2 3 may 1;"
            + "door dc 4 1 along 1 1 may 2;door dd 5 1 along 1 0 may 3;door de 6 1 along 1 0;door dg 7 1 along 1 0;door dh 8 1 along 1 0;"
            + "door di 9 1 along 1 0;draught da db dc;"};
    private static final String[] OTHERS = {
        "open da;go west 3;shut da;wait 30;", "go north 30;", "open da;open db;wait 3;", "", "fit or not (open and at)", "bites da", "may>1",
        "angle=1 or sweeps>3", "row", "door", "\0\0", "((((((((((", "not not not not not not not not not not"};

    public static void main(String[] args) {
        for (int seed = 0; seed < 400; seed++) {
            long one = play(seed);
            long two = play(seed);
            if (one != two) {
                System.out.println("seed " + seed + ": the same calls gave other answers");
                System.exit(1);
            }
        }
        System.out.println("NeverThrowsTest: nothing was thrown");
    }

    private static long play(int seed) {
        Random random = new Random(seed);
        BitingDoors x = new BitingDoors();
        long sum = 0;
        for (int i = 0; i < 512; i++) {
            int call = random.nextInt(60);
            if (call < 3) {
                tell(x, HOUSES[random.nextInt(HOUSES.length)]);
                sum = 31 * sum + x.house();
            } else if (call < 6) {
                tell(x, OTHERS[random.nextInt(OTHERS.length)]);
                sum = 31 * sum + (random.nextBoolean() ? x.day() : x.sentence());
            } else {
                sum = 31 * sum + any(x, random, call);
            }
        }
        return sum;
    }

    private static int arg(Random random) {
        return random.nextInt(3) == 0 ? EDGES[random.nextInt(EDGES.length)] : random.nextInt(10);
    }

    private static int any(BitingDoors x, Random random, int call) {
        int a = arg(random);
        int b = arg(random);
        int c = arg(random);
        int d = arg(random);
        switch (call) {
            case 6: return x.feed(random.nextInt(), random.nextInt(), 0x20726f77, random.nextInt(), 0x3b3b3b3b);
            case 7: return x.end(a) ? 1 : 0;
            case 8: return x.fault();
            case 9: return x.cell(a, b);
            case 10: return doorOr(x, a, b);
            case 11: return x.leaf(a, b, c, d);
            case 12: return x.can(a, b);
            case 13: return x.fit(a, b);
            case 14: return x.bites(a, b, c, d);
            case 15: return x.clashes();
            case 16: return x.cheapest();
            case 17: return x.hung(a);
            case 18: return x.fewest();
            case 19: return x.fewestBy(a);
            case 20: return x.ways();
            case 21: return x.forces(a, b, c);
            case 22: return x.forced(a);
            case 23: return x.forcedAt(a);
            case 24: return x.stuck();
            case 25: return x.joiner();
            case 26: return x.joinerAt(a);
            case 27: return x.rehang(a, b) ? 1 : 0;
            case 28: return x.stand(a, b) ? 1 : 0;
            case 29: return x.place();
            case 30: return x.minutes();
            case 31: return x.judge();
            case 32: return x.judged(a);
            case 33: return x.live();
            case 34: return x.way(a, b);
            case 35: return x.wayAt(a);
            case 36: return x.walk();
            case 37: return x.reach(a);
            case 38: return x.quiet();
            case 39: return x.stride();
            case 40: return x.said();
            case 41: return x.image(a) ? 1 : 0;
            case 42: return x.restore(a) ? 1 : 0;
            case 43: return x.count(a);
            case 44: return x.house();
            case 45: return x.day();
            case 46: return x.sentence();
            default: return x.does(a);
        }
    }
}
