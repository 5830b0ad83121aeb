/** Promises 12 to 18: put, take, ask, front, tune, device, row. */
public final class DeviceTest {
    private static final Checks CHECKS = new Checks();
    private static final int[] FAR = {-1, 6, 7, Integer.MIN_VALUE, Integer.MAX_VALUE};

    public static void main(String[] args) {
        noSuchDevice();
        fewerDevices();
        put();
        take();
        ask();
        front();
        tune();
        device();
        row();
        CHECKS.end("DeviceTest");
    }

    private static void allBad(TalkBus x, int d) {
        String before = Checks.stateOf(x);
        CHECKS.due("put(" + d + ", 0)", x.put(d, 0), TalkBus.BAD);
        CHECKS.due("take(" + d + ")", x.take(d), TalkBus.BAD);
        CHECKS.due("ask(" + d + ", 0, 0)", x.ask(d, 0, 0), TalkBus.BAD);
        CHECKS.due("front(" + d + ")", x.front(d), TalkBus.BAD);
        CHECKS.due("tune(" + d + ", 0, 1)", x.tune(d, 0, 1), TalkBus.BAD);
        CHECKS.due("tune(" + d + ", 1, 0)", x.tune(d, 1, 0), TalkBus.BAD);
        for (int what = 0; what <= 17; what++) {
            CHECKS.due("device(" + d + ", " + what + ")", x.device(d, what), TalkBus.BAD);
        }
        CHECKS.due("row(" + d + ", 0, 0)", x.row(d, 0, 0), TalkBus.BAD);
        CHECKS.due("row(" + d + ", 1, 0)", x.row(d, 1, 0), TalkBus.BAD);
        CHECKS.holds("BAD changes nothing", before.equals(Checks.stateOf(x)));
    }

    private static void noSuchDevice() {
        for (int d : FAR) {
            allBad(new TalkBus(), d);
        }
        allBad(new TalkBus(), TalkBus.NONE);
    }

    private static void fewerDevices() {
        String two = "d2,0,31,1,0;d1,4,31,2,5;";
        for (int d = 2; d < 7; d++) {
            allBad(Checks.laid(two), d);
        }
        TalkBus x = Checks.laid(two);
        CHECKS.due("put(1, 5)", x.put(1, 5), 1);
        x.command(41);
        CHECKS.due("a device of earlier does not listen", x.bus(1), 0);
    }

    private static void put() {
        TalkBus x = new TalkBus();
        for (int b : new int[] {-1, 256, Integer.MIN_VALUE, Integer.MAX_VALUE}) {
            CHECKS.due("put(0, " + b + ")", x.put(0, b), TalkBus.BAD);
        }
        for (int d = 0; d < 6; d++) {
            for (int n = 1; n <= 12; n++) {
                CHECKS.due("put(" + d + ", ..)", x.put(d, n == 12 ? 255 : n - 1), n);
            }
            CHECKS.due("put, FULL", x.put(d, 5), TalkBus.FULL);
            CHECKS.due("put, BAD ahead of FULL", x.put(d, 256), TalkBus.BAD);
            CHECKS.due("device(" + d + ", 15)", x.device(d, 15), 12);
            CHECKS.due("the last", x.row(d, 0, 11), 255);
        }
        Checks.send(x, 32, 85);
        CHECKS.due("give()", x.give(), 0);
        CHECKS.due("put(5, 77)", x.put(5, 77), 12);
        CHECKS.due("row(5, 0, 11)", x.row(5, 0, 11), 77);
        CHECKS.due("row(5, 0, 0)", x.row(5, 0, 0), 1);
    }

    private static void take() {
        TalkBus x = new TalkBus();
        CHECKS.due("take(0)", x.take(0), TalkBus.NONE);
        Checks.send(x, 32, 85);
        for (int b = 11; b < 14; b++) {
            x.put(5, b);
            x.give();
        }
        x.put(0, 99);
        CHECKS.due("take(5)", x.take(5), TalkBus.NONE);
        for (int b = 11; b < 14; b++) {
            CHECKS.due("device(0, 16)", x.device(0, 16), 14 - b);
            CHECKS.due("take(0)", x.take(0), b);
        }
        CHECKS.due("take(0)", x.take(0), TalkBus.NONE);
        CHECKS.due("out is not taken", x.device(0, 15), 1);
    }

    private static void ask() {
        TalkBus x = new TalkBus();
        int[][] bad = {{-1, 0}, {64, 0}, {0, -1}, {0, 2}, {64, 2},
            {Integer.MAX_VALUE, 0}, {0, Integer.MIN_VALUE}};
        x.ask(2, 7, 1);
        for (int[] b : bad) {
            CHECKS.due("ask(2, " + b[0] + ", " + b[1] + ")", x.ask(2, b[0], b[1]), TalkBus.BAD);
        }
        CHECKS.due("ask(2, 63, 0)", x.ask(2, 63, 0), 71);
        CHECKS.due("status", x.device(2, 9), 63);
        CHECKS.due("asks", x.device(2, 10), 0);
        CHECKS.due("bus(5)", x.bus(5), 0);
        CHECKS.due("ask(2, 0, 1)", x.ask(2, 0, 1), 63);
        CHECKS.due("asks", x.device(2, 10), 1);
        CHECKS.due("bus(5)", x.bus(5), 1);
        CHECKS.due("ask(2, 0, 1)", x.ask(2, 0, 1), 64);
        CHECKS.due("ask(2, 5, 1)", x.ask(2, 5, 1), 64);
        CHECKS.due("ask(3, 5, 1)", x.ask(3, 5, 1), 0);
        CHECKS.due("now", x.bus(4), 0);
    }

    private static void front() {
        TalkBus x = new TalkBus();
        CHECKS.due("not remote", x.front(1), 1);
        Checks.send(x, 36, 41);
        CHECKS.due("remote", x.device(1, 7), 1);
        CHECKS.due("front(1)", x.front(1), 1);
        CHECKS.due("remote no more", x.device(1, 7), 0);
        CHECKS.due("listens still", x.device(1, 6), 1);
        x.command(17);
        CHECKS.due("locked, not remote", x.front(1), 1);
        CHECKS.due("locked, remote", x.front(4), 0);
        CHECKS.due("remote still", x.device(4, 7), 1);
        CHECKS.due("locked still", x.device(4, 8), 1);
    }

    private static void tune() {
        TalkBus x = new TalkBus();
        int[][] bad = {{-1, 1}, {2, 1}, {0, 0}, {0, 10}, {0, -1}, {1, -1}, {1, 61},
            {Integer.MAX_VALUE, 1}, {0, Integer.MAX_VALUE}, {1, Integer.MIN_VALUE}};
        for (int[] b : bad) {
            CHECKS.due("tune(1, " + b[0] + ", " + b[1] + ")", x.tune(1, b[0], b[1]), TalkBus.BAD);
        }
        CHECKS.due("pace it is", x.tune(1, 0, 2), TalkBus.NO);
        CHECKS.due("delay it is", x.tune(1, 1, 5), TalkBus.NO);
        CHECKS.due("tune(1, 0, 9)", x.tune(1, 0, 9), 2);
        CHECKS.due("pace", x.device(1, 3), 9);
        CHECKS.due("delay", x.device(1, 4), 5);
        CHECKS.due("tune(1, 1, 60)", x.tune(1, 1, 60), 5);
        CHECKS.due("delay", x.device(1, 4), 60);
        CHECKS.due("tune(1, 0, 1)", x.tune(1, 0, 1), 9);
        CHECKS.due("tune(1, 1, 0)", x.tune(1, 1, 0), 60);
        CHECKS.due("tune of no meter", x.tune(0, 1, 3), 0);
        CHECKS.due("its delay", x.device(0, 4), 3);
        CHECKS.due("tune(0, 1, 3)", x.tune(0, 1, 3), TalkBus.NO);
    }

    private static void device() {
        TalkBus x = new TalkBus();
        for (int what : new int[] {-1, 18, 19, Integer.MIN_VALUE, Integer.MAX_VALUE}) {
            CHECKS.due("device(0, " + what + ")", x.device(0, what), TalkBus.BAD);
        }
        x.tune(1, 1, 20);
        Checks.send(x, 36, 5, 109, 17, 8, 8, 68);
        x.put(1, 4);
        x.put(1, 5);
        x.put(1, 6);
        x.ask(1, 33, 1);
        x.tick(2);
        int[] want = {1, 4, 31, 2, 20, 1, 1, 1, 1, 33, 1, 5, 1, 2, 13, 3, 0, 0};
        for (int what = 0; what < want.length; what++) {
            CHECKS.due("device(1, " + what + ")", x.device(1, what), want[what]);
        }
        x.command(71);
        CHECKS.due("named to talk", x.device(2, 17), 2);
        CHECKS.due("talks no more", x.device(1, 5), 0);
        x.command(39);
        CHECKS.due("named to listen", x.device(3, 17), 1);
        x.tick(3);
        CHECKS.due("no reading is due", x.device(1, 14), TalkBus.NONE);
        CHECKS.due("status", x.device(1, 9), 16);
    }

    private static void row() {
        TalkBus x = new TalkBus();
        Checks.send(x, 32, 85);
        for (int b = 0; b < 3; b++) {
            x.put(5, 50 + b);
            x.put(5, 60 + b);
            x.give();
        }
        int[] out = {61, 52, 62, TalkBus.NONE};
        int[] in = {50, 60, 51, TalkBus.NONE};
        for (int i = 0; i < 4; i++) {
            CHECKS.due("row(5, 0, " + i + ")", x.row(5, 0, i), out[i]);
            CHECKS.due("row(0, 1, " + i + ")", x.row(0, 1, i), in[i]);
        }
        CHECKS.due("row(5, 1, 0)", x.row(5, 1, 0), TalkBus.NONE);
        CHECKS.due("row(0, 0, 0)", x.row(0, 0, 0), TalkBus.NONE);
        for (int i : new int[] {12, 13, Integer.MAX_VALUE}) {
            CHECKS.due("row(5, 0, " + i + ")", x.row(5, 0, i), TalkBus.NONE);
        }
        for (int i : new int[] {-1, Integer.MIN_VALUE}) {
            CHECKS.due("row(5, 0, " + i + ")", x.row(5, 0, i), TalkBus.BAD);
        }
        for (int of : new int[] {-1, 2, Integer.MIN_VALUE, Integer.MAX_VALUE}) {
            CHECKS.due("row(5, " + of + ", 0)", x.row(5, of, 0), TalkBus.BAD);
            CHECKS.due("BAD ahead of NONE", x.row(5, of, 12), TalkBus.BAD);
        }
    }
}
