/** Calls in any order with any arguments: none of them throws, and each object ends its 512 calls. */
public final class AnyCallTest {
    private static final int[] EDGES = {Integer.MIN_VALUE, Integer.MIN_VALUE + 100, -100, -2, -1, 0, 1, 2, 3, 4, 5, 6, 7, 8, 9, 10,
        39, 40, 41, 99, 100, 101, 107, 108, 199, 200, 2999, 3000, 3001, 19999, 20000, 20001, Integer.MAX_VALUE};

    public static void main(String[] args) {
        for (int seed = 1; seed <= 400; seed++) {
            calls(new Programs(seed), seed);
        }
        Court.close();
    }

    private static int edge(Programs random) {
        return EDGES[random.below(EDGES.length)];
    }

    private static void calls(Programs random, int seed) {
        BlameCourt court = new BlameCourt();
        String text = random.program();
        long sum = 0;
        for (int i = 0; i < 512; i++) {
            sum += call(random, court, text, random.below(16));
        }
        Court.due("calls from seed " + seed + " end", sum, sum);
    }

    private static long call(Programs random, BlameCourt court, String text, int which) {
        int a = random.below(3) == 0 ? edge(random) : random.below(12);
        int b = random.below(3) == 0 ? edge(random) : random.below(12);
        switch (which) {
            case 0:
                return court.feed(a, b, a, b, random.below(1 << 30));
            case 1:
                return court.end(a);
            case 2:
                return court.read();
            case 3:
                return court.fault(a);
            case 4:
                return court.tell(a, random.below(2) == 0) ? 1 : 0;
            case 5:
                return court.judge();
            case 6:
                return court.guard(a, b);
            case 7:
                return court.part(a, b);
            case 8:
                return court.run(random.below(2) == 0 ? a : 20000);
            case 9:
                return court.runUntold(random.below(2) == 0 ? a : 20000);
            case 10:
                return court.told(a);
            case 11:
                return court.out(a);
            case 12:
                return court.asked(a, b);
            case 13:
                return court.about(a);
            default:
                court.end(0);
                Court.put(court, random.below(5) == 0 ? random.spoil(text) : text);
                return random.below(2) == 0 ? court.read() : 0;
        }
    }
}
