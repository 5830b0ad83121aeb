/** Promises 19 to 21: bus, sum, log. */
public final class BusTest {
    private static final Checks CHECKS = new Checks();

    public static void main(String[] args) {
        bus();
        sum();
        log();
        CHECKS.end("BusTest");
    }

    private static void bus() {
        TalkBus x = new TalkBus();
        for (int what : new int[] {-1, 9, 10, Integer.MIN_VALUE, Integer.MAX_VALUE}) {
            CHECKS.due("bus(" + what + ")", x.bus(what), TalkBus.BAD);
        }
        Checks.tell(x, "d2,");
        Checks.send(x, 85, 9, 32, 53, 39, 98, 68, 24);
        x.ask(4, 0, 1);
        int[] want = {1, 1 + 8 + 32, 5, 1, 40, 1, 6, 6, 3};
        for (int what = 0; what < want.length; what++) {
            CHECKS.due("bus(" + what + ")", x.bus(what), want[what]);
        }
        x.command(25);
        CHECKS.due("bus(6), out is empty", x.bus(6), TalkBus.NO);
        x.put(1, 0);
        CHECKS.due("bus(6)", x.bus(6), 6);
        CHECKS.due("bus(6) gives nothing", x.device(1, 15), 1);
        x.tune(3, 0, 8);
        CHECKS.due("bus(6)", x.bus(6), 10);
        int now = x.bus(4);
        x.give();
        CHECKS.due("as told", x.bus(4), now + 10);
        for (int d = 0; d < 6; d++) {
            TalkBus y = new TalkBus();
            y.ask(d, 63, 0);
            CHECKS.due("bus(5), a status alone", y.bus(5), 0);
            y.ask(d, 0, 1);
            CHECKS.due("bus(5), " + d + " asks", y.bus(5), 1);
        }
    }

    private static void sum() {
        TalkBus x = new TalkBus();
        for (int what : new int[] {-1, 8, 9, Integer.MIN_VALUE, Integer.MAX_VALUE}) {
            CHECKS.due("sum(" + what + ")", x.sum(what), TalkBus.BAD);
        }
        Checks.send(x, 36, 41, 53, 8, 85, 9);
        x.tick(1);
        CHECKS.due("sum(3)", x.sum(3), 2);
        Checks.send(x, 32, 73);
        x.give();
        x.give();
        x.give();
        x.poll();
        Checks.tell(x, "d2,0,31,1,0;d0,1,31,1,0;");
        int[] want = {8 + 7, 2 + 2, 3 * 2 + 2, 2, 1, 1, 1, 3};
        for (int what = 0; what < want.length; what++) {
            CHECKS.due("sum(" + what + ")", x.sum(what), want[what]);
        }
        x.lay();
        for (int what = 0; what < want.length; what++) {
            CHECKS.due("sum(" + what + ") behind lay", x.sum(what), 0);
        }
        x.poll();
        CHECKS.due("sum(0)", x.sum(0), 6);
        CHECKS.due("sum(4)", x.sum(4), 1);
        CHECKS.due("sum(5)", x.sum(5), 0);
    }

    private static void log() {
        TalkBus x = new TalkBus();
        for (int what = 0; what < 3; what++) {
            CHECKS.due("log(0, " + what + ")", x.log(0, what), TalkBus.NONE);
            CHECKS.due("log(-1, " + what + ")", x.log(-1, what), 0);
            CHECKS.due("log(-2, " + what + ")", x.log(-2, what), TalkBus.BAD);
            CHECKS.due("log(least, " + what + ")", x.log(Integer.MIN_VALUE, what), TalkBus.BAD);
            CHECKS.due("log(most, " + what + ")", x.log(Integer.MAX_VALUE, what), TalkBus.NONE);
        }
        for (int what : new int[] {-1, 3, Integer.MIN_VALUE, Integer.MAX_VALUE}) {
            CHECKS.due("BAD ahead of NONE", x.log(0, what), TalkBus.BAD);
            CHECKS.due("BAD for the number, too", x.log(-1, what), TalkBus.BAD);
        }
        for (int n = 1; n <= 40; n++) {
            if (n == 30) {
                x.command(85);
            } else if (n == 31) {
                x.command(9);
            } else {
                x.command(n % 2 == 0 ? 0 : 127);
            }
            if (n % 3 == 0) {
                x.tick(2);
            }
            CHECKS.due("log(-1, 0)", x.log(-1, 0), Math.min(n, 16));
            CHECKS.due("log(15, 1)", x.log(15, 1) == TalkBus.NONE ? 0 : 1, n < 16 ? 0 : 1);
            CHECKS.due("log(16, 1)", x.log(16, 1), TalkBus.NONE);
        }
        for (int i = 0; i < 16; i++) {
            int n = 40 - i;
            int c = n == 30 ? 85 : n == 31 ? 9 : n % 2 == 0 ? 0 : 127;
            CHECKS.due("log(" + i + ", 0)", x.log(i, 0), (n - 1) * 5 + (n - 1) / 3 * 2);
            CHECKS.due("log(" + i + ", 1)", x.log(i, 1), c);
            CHECKS.due("log(" + i + ", 2)", x.log(i, 2), n <= 31 ? 0 : 5);
        }
        x.tick(500);
        x.give();
        x.parallel();
        x.takeBack();
        CHECKS.due("only commands", x.log(0, 0), 39 * 5 + 13 * 2);
    }
}
