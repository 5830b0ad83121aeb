import java.util.Random;

/**
 * Runs of up to 512 calls with numbers by a fixed seed: TalkBus answers as SlowBus does, and a call
 * that is refused changes nothing. A throw ends the test.
 */
public final class ManyRunsTest {
    private static final Checks CHECKS = new Checks();
    private static final String[] NAMES = {"write", "wipe", "fault", "lay", "command", "give", "tick",
        "poll", "parallel", "takeBack", "put", "take", "ask", "front", "tune", "device", "row", "bus",
        "sum", "log"};
    private static final int[] WEIGHTS = {2, 1, 2, 2, 40, 14, 6, 4, 4, 1, 10, 6, 6, 4, 4, 12, 4, 6, 4, 4};
    private static final int[] ODD = {Integer.MIN_VALUE, -5, -4, -3, -2, -1, 0, 1, 2, 3, 6, 12, 17, 31,
        63, 64, 127, 128, 200, 255, 256, 500, 501, 1 << 16, Integer.MAX_VALUE};

    public static void main(String[] args) {
        Random random = new Random(20261118L);
        for (int run = 0; run < 4000; run++) {
            oneRun(run, random);
        }
        CHECKS.end("ManyRunsTest");
    }

    private static void oneRun(int run, Random random) {
        TalkBus x = new TalkBus();
        SlowBus slow = new SlowBus();
        int calls = 0;
        if (random.nextInt(3) > 0) {
            String text = randomText(random);
            for (int i = 0; i < text.length() && i < 300; i++) {
                same(run, x, slow, 0, text.charAt(i), 0, 0);
            }
            same(run, x, slow, 2, 0, 0, 0);
            same(run, x, slow, 3, 0, 0, 0);
            calls = text.length() + 2;
        }
        for (; calls < 512; calls++) {
            int which = weighed(random);
            boolean odd = random.nextInt(30) == 0;
            int a = odd ? ODD[random.nextInt(ODD.length)] : first(which, random, x);
            int b = odd ? ODD[random.nextInt(ODD.length)] : second(which, random);
            int c = odd ? ODD[random.nextInt(ODD.length)] : random.nextInt(which == 14 ? 12 : 2);
            boolean look = random.nextInt(20) == 0;
            String before = look ? Checks.stateOf(x) : "";
            int answer = same(run, x, slow, which, a, b, c);
            boolean refused = answer < 0 && which != 7;
            if (look && refused) {
                CHECKS.holds(NAMES[which] + " refused changes nothing", before.equals(Checks.stateOf(x)));
            }
        }
        compareAll(run, x, slow);
    }

    private static int same(int run, TalkBus x, SlowBus slow, int which, int a, int b, int c) {
        int got = call(x, which, a, b, c);
        String told = "run " + run + ": " + NAMES[which] + "(" + a + ", " + b + ", " + c + ")";
        CHECKS.due(told, got, slow.call(which, a, b, c));
        return got;
    }

    private static void compareAll(int run, TalkBus x, SlowBus slow) {
        for (int what = 0; what <= 8; what++) {
            same(run, x, slow, 17, what, 0, 0);
            same(run, x, slow, 18, what, 0, 0);
        }
        for (int d = 0; d < 6; d++) {
            for (int what = 0; what <= 17; what++) {
                same(run, x, slow, 15, d, what, 0);
                same(run, x, slow, 16, d, what & 1, what);
            }
        }
        for (int i = -1; i <= 16; i++) {
            for (int what = 0; what <= 2; what++) {
                same(run, x, slow, 19, i, what, 0);
            }
        }
    }

    private static int weighed(Random random) {
        int all = 0;
        for (int w : WEIGHTS) {
            all += w;
        }
        int left = random.nextInt(all);
        int which = 0;
        while (left >= WEIGHTS[which]) {
            left -= WEIGHTS[which];
            which++;
        }
        return which;
    }

    private static int first(int which, Random random, TalkBus x) {
        switch (which) {
            case 0: return random.nextInt(2) == 0 ? 'd' : 32 + random.nextInt(95);
            case 4: return someCommand(random, x);
            case 6: return 1 + random.nextInt(random.nextInt(8) == 0 ? 500 : 8);
            case 17: return random.nextInt(9);
            case 18: return random.nextInt(8);
            case 19: return random.nextInt(18) - 1;
            default: return random.nextInt(x.bus(7));
        }
    }

    private static int second(int which, Random random) {
        switch (which) {
            case 10: return random.nextInt(256);
            case 12: return random.nextInt(64);
            case 15: return random.nextInt(18);
            case 19: return random.nextInt(3);
            default: return random.nextInt(2);
        }
    }

    /** Mostly commands that mean something for the devices that there are. */
    private static int someCommand(Random random, TalkBus x) {
        int d = random.nextInt(x.bus(7));
        switch (random.nextInt(8)) {
            case 0: return 32 + x.device(d, 1);
            case 1: return 64 + x.device(d, 1);
            case 2: return 96 + x.device(d, 2);
            case 3: return new int[] {1, 4, 5, 8, 9, 17, 20, 21, 24, 25, 63, 95}[random.nextInt(12)];
            case 4: return new int[] {5, 8, 9}[random.nextInt(3)];
            case 5: return x.log(0, 1) == 5 ? 96 + random.nextInt(32) : 5;
            case 6: return 32 + x.device(d, 1);
            default: return random.nextInt(128);
        }
    }

    private static String randomText(Random random) {
        StringBuilder all = new StringBuilder();
        int items = 1 + random.nextInt(6) + random.nextInt(8) / 7;
        for (int n = 0; n < items; n++) {
            int address = random.nextInt(4) == 0 ? random.nextInt(3) : random.nextInt(31);
            all.append('d').append(n == 0 ? 2 : random.nextInt(3)).append(',').append(address)
                .append(',').append(random.nextInt(2) == 0 ? 31 : random.nextInt(4)).append(',')
                .append(1 + random.nextInt(random.nextBoolean() ? 3 : 9)).append(',')
                .append(random.nextInt(random.nextBoolean() ? 4 : 61)).append(';');
        }
        if (random.nextInt(6) == 0) {
            int place = random.nextInt(all.length());
            all.setCharAt(place, "d0123456789,; :/".charAt(random.nextInt(16)));
        }
        if (random.nextInt(10) == 0) {
            all.setLength(random.nextInt(all.length()));
        }
        return all.toString();
    }

    private static int call(TalkBus x, int which, int a, int b, int c) {
        switch (which) {
            case 0: return x.write(a);
            case 1: return x.wipe();
            case 2: return x.fault();
            case 3: return x.lay();
            case 4: return x.command(a);
            case 5: return x.give();
            case 6: return x.tick(a);
            case 7: return x.poll();
            case 8: return x.parallel();
            case 9: return x.takeBack();
            case 10: return x.put(a, b);
            case 11: return x.take(a);
            case 12: return x.ask(a, b, c);
            case 13: return x.front(a);
            case 14: return x.tune(a, b, c);
            case 15: return x.device(a, b);
            case 16: return x.row(a, b, c);
            case 17: return x.bus(a);
            case 18: return x.sum(a);
            default: return x.log(a, b);
        }
    }
}
