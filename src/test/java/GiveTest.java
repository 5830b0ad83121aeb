/** Promises 7 and 8: give, tick. */
public final class GiveTest {
    private static final Checks CHECKS = new Checks();

    public static void main(String[] args) {
        refused();
        toAll();
        talkerListensToo();
        full();
        polling();
        readingInItsTicks();
        readingWhilePolling();
        tick();
        CHECKS.end("GiveTest");
    }

    /** EdgesTest looks at all that could change; here a few numbers keep a run below 512 calls. */
    private static String shortStateOf(TalkBus x) {
        StringBuilder all = new StringBuilder();
        all.append(x.bus(4)).append(' ').append(x.sum(1)).append(' ').append(x.sum(2));
        for (int d = 0; d < 6; d++) {
            all.append(' ').append(x.device(d, 15)).append(' ').append(x.device(d, 16));
        }
        return all.toString();
    }

    private static void refuses(TalkBus x, String why) {
        String before = shortStateOf(x);
        CHECKS.due("give(), " + why, x.give(), TalkBus.NO);
        CHECKS.due("bus(6), " + why, x.bus(6), TalkBus.NO);
        CHECKS.holds("give() changes nothing, " + why, before.equals(shortStateOf(x)));
    }

    private static void refused() {
        TalkBus x = new TalkBus();
        refuses(x, "nobody talks");
        x.command(36);
        refuses(x, "nobody talks, one listens");
        x.command(68);
        refuses(x, "out is empty");
        x.put(1, 7);
        refuses(x, "only the talker listens");
        x.command(24);
        refuses(x, "only the talker listens, polling");
        Checks.send(x, 25, 63);
        refuses(x, "nobody listens");
        x.command(32);
        CHECKS.due("give()", x.give(), 7);
        refuses(x, "out is empty again");
        x.command(95);
        refuses(x, "nobody talks any more");
    }

    private static void toAll() {
        TalkBus x = new TalkBus();
        x.put(5, 255);
        x.put(5, 0);
        x.put(5, 1);
        Checks.send(x, 32, 36, 39, 98, 85);
        int now = x.bus(4);
        CHECKS.due("bus(6)", x.bus(6), 6);
        CHECKS.due("give()", x.give(), 255);
        CHECKS.due("now", x.bus(4), now + 6);
        CHECKS.due("out of 5", x.device(5, 15), 2);
        Checks.send(x, 63, 41);
        now = x.bus(4);
        CHECKS.due("give()", x.give(), 0);
        CHECKS.due("now", x.bus(4), now + 7);
        int[] in = {1, 1, 0, 1, 1, 0};
        for (int d = 0; d < 6; d++) {
            CHECKS.due("in of " + d, x.device(d, 16), in[d]);
        }
        CHECKS.due("row", x.row(0, 1, 0), 255);
        CHECKS.due("row", x.row(3, 1, 0), 255);
        CHECKS.due("row", x.row(4, 1, 0), 0);
        CHECKS.due("sum(1)", x.sum(1), 2);
        CHECKS.due("sum(2)", x.sum(2), 4);
        CHECKS.due("no command", x.sum(0), 7);
        x.tune(4, 0, 9);
        CHECKS.due("bus(6)", x.bus(6), 11);
    }

    private static void talkerListensToo() {
        TalkBus x = new TalkBus();
        Checks.send(x, 32, 41, 73);
        for (int n = 0; n < 12; n++) {
            x.put(4, n);
        }
        CHECKS.due("its own pace does not count", x.bus(6), 3);
        CHECKS.due("give()", x.give(), 0);
        CHECKS.due("in of who talks", x.device(4, 16), 0);
        CHECKS.due("in of who listens", x.device(0, 16), 1);
        CHECKS.due("sum(2)", x.sum(2), 1);
    }

    private static void full() {
        TalkBus x = new TalkBus();
        Checks.send(x, 32, 85);
        for (int n = 0; n < 12; n++) {
            x.put(5, n);
            x.give();
        }
        x.command(36);
        x.put(5, 99);
        refuses(x, "in of one has 12");
        x.command(24);
        refuses(x, "in of one has 12, polling");
        x.command(25);
        CHECKS.due("take(0)", x.take(0), 0);
        CHECKS.due("give()", x.give(), 99);
        CHECKS.due("row(0, 1, 11)", x.row(0, 1, 11), 99);
        CHECKS.due("row(1, 1, 0)", x.row(1, 1, 0), 99);
        x.put(5, 98);
        refuses(x, "in of one has 12 again");
        x.command(64);
        x.put(0, 97);
        CHECKS.due("in of who talks itself is full", x.give(), 97);
    }

    private static void polling() {
        TalkBus x = new TalkBus();
        Checks.send(x, 32, 85, 24);
        CHECKS.due("status 0", x.give(), 0);
        x.put(5, 44);
        x.ask(5, 63, 1);
        CHECKS.due("give()", x.give(), 127);
        CHECKS.due("asks no more", x.device(5, 10), 0);
        CHECKS.due("status stays", x.device(5, 9), 63);
        CHECKS.due("out stays", x.device(5, 15), 1);
        CHECKS.due("give()", x.give(), 63);
        CHECKS.due("in", x.row(0, 1, 1), 127);
        CHECKS.due("sum(1)", x.sum(1), 3);
        x.ask(5, 1, 1);
        x.command(25);
        CHECKS.due("give()", x.give(), 44);
        CHECKS.due("asks still", x.device(5, 10), 1);
    }

    private static void readingInItsTicks() {
        TalkBus x = Checks.laid("d2,0,31,1,0;d1,3,31,1,6;");
        Checks.send(x, 32, 35, 67, 8);
        x.put(1, 200);
        x.put(1, 201);
        x.tick(3);
        CHECKS.due("due in", x.device(1, 14), 3);
        CHECKS.due("the byte is the reading's", x.give(), '1');
        CHECKS.due("one byte is left", x.device(1, 15), 1);
        CHECKS.due("it is the second", x.row(1, 0, 0), '6');
        CHECKS.due("sum(3)", x.sum(3), 1);
        x.command(8);
        CHECKS.due("give()", x.give(), '6');
        refuses(x, "out is empty, though a reading is due");
        x.tick(3);
        CHECKS.due("give()", x.give(), '2');
        x.command(8);
        x.tick(2);
        x.put(1, 7);
        CHECKS.due("a reading one tick behind comes not yet", x.give(), '3');
        CHECKS.due("due in", x.device(1, 14), 1);
    }

    private static void readingWhilePolling() {
        TalkBus x = Checks.laid("d2,0,31,1,0;d1,3,31,1,6;");
        Checks.send(x, 32, 35, 67, 8, 24);
        x.ask(1, 5, 0);
        CHECKS.due("give()", x.give(), 5);
        CHECKS.due("give()", x.give(), 80);
        CHECKS.due("asks no more", x.device(1, 10), 0);
        CHECKS.due("give()", x.give(), 16);
    }

    private static void tick() {
        TalkBus x = new TalkBus();
        for (int n : new int[] {0, -1, 501, Integer.MIN_VALUE, Integer.MAX_VALUE}) {
            CHECKS.due("tick(" + n + ")", x.tick(n), TalkBus.BAD);
        }
        CHECKS.due("bus(4)", x.bus(4), 0);
        CHECKS.due("tick(1)", x.tick(1), 1);
        CHECKS.due("tick(500)", x.tick(500), 501);
        Checks.send(x, 36, 41);
        x.tune(4, 1, 5);
        x.command(8);
        CHECKS.due("tick(4)", x.tick(4), 520);
        CHECKS.due("sum(3)", x.sum(3), 0);
        CHECKS.due("tick(1)", x.tick(1), 521);
        CHECKS.due("of several at one tick all come", x.sum(3), 2);
        CHECKS.due("asks", x.device(1, 10), 1);
        CHECKS.due("asks", x.device(4, 10), 1);
        CHECKS.due("no command", x.sum(0), 3);
    }
}
