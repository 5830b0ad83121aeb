import java.util.function.ToIntFunction;

/** Boundary cases of promises 12 to 16, and of devices such as there are. */
final class DeviceEdges {
    private static final int BAD = TalkBus.BAD, NO = TalkBus.NO, FULL = TalkBus.FULL, NONE = TalkBus.NONE;
    private static final int LEAST = Integer.MIN_VALUE, MOST = Integer.MAX_VALUE;

    private final Edges edges;

    DeviceEdges(Edges edges) {
        this.edges = edges;
    }

    void run() {
        bytesPut();
        fullOut();
        firstTaken();
        noneTaken();
        statusTold();
        statusBefore();
        frontKey();
        frontOfLocked();
        tunedPace();
        tunedDelay();
        tunedAsItIs();
        dueStaysDue();
    }

    private static TalkBus sent(int... commands) {
        TalkBus x = new TalkBus();
        Checks.send(x, commands);
        return x;
    }

    /** A call with a number of a device below, above, and no more among those there are. */
    private void ofNoDevice(int promise, String call, OfDevice calling) {
        edges.sentence(promise, "BAD: a number is none that is told (DEVICES such as there are).");
        edges.at("-1, and the ends of int");
        for (int d : new int[] {-1, LEAST, MOST}) {
            refused(call, d, calling);
        }
        edges.at("6, one too large");
        refused(call, 6, calling);
        edges.at("1, where one device is laid");
        edges.refused(call + " of 1", () -> Checks.laid("d2,0,31,3,3;"), x -> calling.of(x, 1), BAD);
        edges.at("2, where two are laid");
        edges.refused(call + " of 2", () -> Checks.laid("d2,0,31,3,3;d0,1,31,3,3;"),
            x -> calling.of(x, 2), BAD);
        edges.at("the first and the last that there are");
        edges.holds(call + " of 0", calling.of(new TalkBus(), 0) != BAD);
        edges.holds(call + " of 5", calling.of(new TalkBus(), 5) != BAD);
    }

    private void refused(String call, int d, OfDevice calling) {
        ToIntFunction<TalkBus> ofIt = x -> calling.of(x, d);
        edges.refused(call + " of " + d, () -> sent(36, 8, 39), ofIt, BAD);
    }

    private interface OfDevice {
        int of(TalkBus x, int d);
    }

    // ---- promise 12

    private void bytesPut() {
        ofNoDevice(12, "put(d, 7)", (x, d) -> x.put(d, 7));
        edges.sentence(12, "A byte (0 to 255) comes behind OUT of a DEVICE: how many it has.");
        edges.at("0, the least");
        TalkBus x = new TalkBus();
        edges.due("put(1, 0)", x.put(1, 0), 1);
        edges.due("row(1, 0, 0)", x.row(1, 0, 0), 0);
        edges.at("255, the greatest, behind it");
        edges.due("put(1, 255)", x.put(1, 255), 2);
        edges.due("row(1, 0, 1)", x.row(1, 0, 1), 255);
        edges.at("-1, too small");
        edges.refused("put(1, -1)", TalkBus::new, y -> y.put(1, -1), BAD);
        edges.at("256, too large");
        edges.refused("put(1, 256)", TalkBus::new, y -> y.put(1, 256), BAD);
        edges.at("the ends of int");
        edges.refused("put(1, least)", TalkBus::new, y -> y.put(1, LEAST), BAD);
        edges.refused("put(1, most)", TalkBus::new, y -> y.put(1, MOST), BAD);
        edges.at("OUT of that device alone, not IN");
        edges.due("device(0, 15)", x.device(0, 15), 0);
        edges.due("device(2, 15)", x.device(2, 15), 0);
        edges.due("device(1, 16)", x.device(1, 16), 0);
    }

    private static TalkBus filled() {
        TalkBus x = new TalkBus();
        for (int n = 0; n < 12; n++) {
            x.put(5, 240 + n);
        }
        return x;
    }

    private void fullOut() {
        edges.sentence(12, "BAD; FULL: 12.");
        edges.at("the twelfth");
        TalkBus x = new TalkBus();
        for (int n = 1; n <= 12; n++) {
            edges.due("put(5, 3)", x.put(5, 3), n);
        }
        edges.at("the thirteenth");
        edges.refused("put(5, 3)", DeviceEdges::filled, y -> y.put(5, 3), FULL);
        edges.at("BAD comes first");
        edges.refused("put(5, 256)", DeviceEdges::filled, y -> y.put(5, 256), BAD);
        edges.refused("put(6, 3)", DeviceEdges::filled, y -> y.put(6, 3), BAD);
        edges.at("another has room");
        edges.due("put(4, 3)", filled().put(4, 3), 1);
        edges.at("a byte was given: room for one, behind the others");
        x = filled();
        Checks.send(x, 32, 85);
        edges.due("give()", x.give(), 240);
        edges.due("put(5, 3)", x.put(5, 3), 12);
        edges.due("row(5, 0, 10)", x.row(5, 0, 10), 251);
        edges.due("row(5, 0, 11)", x.row(5, 0, 11), 3);
        edges.due("put(5, 3)", x.put(5, 3), FULL);
        edges.at("around and around");
        for (int n = 0; n < 30; n++) {
            x.take(0);
            x.give();
            edges.due("put(5, n)", x.put(5, n), 12);
        }
        for (int i = 0; i < 12; i++) {
            edges.due("row(5, 0, " + i + ")", x.row(5, 0, i), 18 + i);
        }
    }

    // ---- promise 13

    /** Device 0 has so many bytes in IN: 200, 201, .. */
    private static TalkBus heard(int bytes) {
        TalkBus x = sent(32, 85);
        for (int n = 0; n < bytes; n++) {
            x.put(5, 200 + n);
            x.give();
        }
        return x;
    }

    private void firstTaken() {
        ofNoDevice(13, "take(d)", TalkBus::take);
        edges.sentence(13, "The first byte of IN of a DEVICE is taken out: it.");
        edges.at("twelve, the first that came first");
        TalkBus x = heard(12);
        for (int n = 0; n < 12; n++) {
            edges.due("take(0)", x.take(0), 200 + n);
            edges.due("device(0, 16)", x.device(0, 16), 11 - n);
        }
        edges.at("a byte 0, a byte 255");
        x = sent(32, 85);
        x.put(5, 0);
        x.put(5, 255);
        x.give();
        x.give();
        edges.due("take(0)", x.take(0), 0);
        edges.due("take(0)", x.take(0), 255);
        edges.at("IN of that device alone");
        x = sent(32, 36, 85);
        x.put(5, 7);
        x.give();
        edges.due("take(0)", x.take(0), 7);
        edges.due("device(1, 16)", x.device(1, 16), 1);
    }

    private void noneTaken() {
        edges.sentence(13, "BAD; NONE.");
        edges.at("it never had one");
        edges.refused("take(0)", TalkBus::new, x -> x.take(0), NONE);
        edges.at("behind the last one");
        TalkBus x = heard(1);
        edges.due("take(0)", x.take(0), 200);
        edges.due("take(0)", x.take(0), NONE);
        edges.at("it has OUT alone");
        x = new TalkBus();
        x.put(0, 9);
        edges.due("take(0)", x.take(0), NONE);
        edges.due("device(0, 15)", x.device(0, 15), 1);
        edges.at("behind none the next byte is the first");
        x = heard(1);
        x.take(0);
        x.take(0);
        x.put(5, 9);
        x.give();
        edges.due("take(0)", x.take(0), 9);
    }

    // ---- promise 14

    private void statusTold() {
        ofNoDevice(14, "ask(d, 1, 1)", (x, d) -> x.ask(d, 1, 1));
        edges.sentence(14, "A DEVICE has a STATUS (0 to 63) and ASKS (asks = 1) or not (0)");
        edges.at("status 0 and 63");
        TalkBus x = new TalkBus();
        x.ask(1, 63, 1);
        edges.due("device(1, 9)", x.device(1, 9), 63);
        edges.due("device(1, 10)", x.device(1, 10), 1);
        x.ask(1, 0, 0);
        edges.due("device(1, 9)", x.device(1, 9), 0);
        edges.due("device(1, 10)", x.device(1, 10), 0);
        int[] wrongStatus = {-1, 64, LEAST, MOST};
        edges.at("status -1, too small, 64, too large, the ends of int");
        for (int status : wrongStatus) {
            edges.refused("ask(1, " + status + ", 1)", TalkBus::new, y -> y.ask(1, status, 1), BAD);
        }
        edges.at("asks -1, too small, 2, too large, the ends of int: the status stays, too");
        for (int asks : new int[] {-1, 2, LEAST, MOST}) {
            edges.refused("ask(1, 5, " + asks + ")", TalkBus::new, y -> y.ask(1, 5, asks), BAD);
        }
    }

    private void statusBefore() {
        edges.sentence(14, "its STATUS before, and 64 if it ASKED. BAD.");
        edges.at("at first");
        TalkBus x = new TalkBus();
        edges.due("ask(1, 63, 1)", x.ask(1, 63, 1), 0);
        edges.at("63 and it asked");
        edges.due("ask(1, 63, 0)", x.ask(1, 63, 0), 127);
        edges.at("63 and it did not ask");
        edges.due("ask(1, 0, 1)", x.ask(1, 0, 1), 63);
        edges.at("0 and it asked; told as it is");
        edges.due("ask(1, 0, 1)", x.ask(1, 0, 1), 64);
        edges.due("ask(1, 0, 1)", x.ask(1, 0, 1), 64);
        edges.at("behind a reading");
        x = Checks.laid("d2,0,31,1,0;d1,1,31,1,0;");
        Checks.send(x, 33, 8);
        edges.due("ask(1, 0, 0)", x.ask(1, 0, 0), 80);
        edges.at("behind a poll");
        x = new TalkBus();
        x.ask(1, 9, 1);
        x.poll();
        edges.due("ask(1, 0, 0)", x.ask(1, 0, 0), 9);
        edges.at("of that device alone, no ticks");
        x = new TalkBus();
        x.ask(1, 9, 1);
        edges.due("device(0, 9)", x.device(0, 9), 0);
        edges.due("device(2, 10)", x.device(2, 10), 0);
        edges.due("bus(4)", x.bus(4), 0);
    }

    // ---- promise 15

    private void frontKey() {
        ofNoDevice(15, "front(d)", TalkBus::front);
        edges.sentence(15, "A FRONT key: 1: it is not REMOTE then (or was not), 0: it is still (LOCKED). BAD.");
        edges.at("it was not remote");
        edges.refused("front(1)", TalkBus::new, x -> x.front(1), 1);
        edges.at("it was remote");
        TalkBus x = sent(36);
        edges.due("front(1)", x.front(1), 1);
        edges.due("device(1, 7)", x.device(1, 7), 0);
        edges.due("device(1, 6)", x.device(1, 6), 1);
        edges.at("locked and remote");
        edges.refused("front(1)", () -> sent(36, 17), y -> y.front(1), 0);
        edges.at("locked, but not remote");
        edges.refused("front(2)", () -> sent(36, 17), y -> y.front(2), 1);
        edges.at("of that device alone");
        x = sent(36, 41);
        x.front(1);
        edges.due("device(4, 7)", x.device(4, 7), 1);
    }

    private void frontOfLocked() {
        edges.sentence(15, "it is not REMOTE any more, if it is not LOCKED.");
        edges.at("locked, then made local by a command 1");
        TalkBus x = sent(36, 17, 1);
        edges.due("front(1)", x.front(1), 1);
        edges.at("locked, then told to listen again");
        x.command(36);
        edges.due("front(1)", x.front(1), 0);
        edges.due("device(1, 7)", x.device(1, 7), 1);
        edges.at("told to listen again behind the key");
        x = sent(36);
        x.front(1);
        x.command(36);
        edges.due("device(1, 7)", x.device(1, 7), 1);
    }

    // ---- promise 16

    private void tunedPace() {
        ofNoDevice(16, "tune(d, 0, 7)", (x, d) -> x.tune(d, 0, 7));
        ofNoDevice(16, "tune(d, 1, 7)", (x, d) -> x.tune(d, 1, 7));
        edges.sentence(16, "What a DEVICE has of its own is told anew: PACE (what = 0), DELAY (1;");
        edges.at("pace 9, the greatest, then 1, the least");
        TalkBus x = new TalkBus();
        edges.due("tune(1, 0, 9)", x.tune(1, 0, 9), 2);
        edges.due("device(1, 3)", x.device(1, 3), 9);
        edges.due("tune(1, 0, 1)", x.tune(1, 0, 1), 9);
        edges.due("device(1, 3)", x.device(1, 3), 1);
        edges.at("pace 0, too small, 10, too large");
        for (int v : new int[] {0, 10, -1, LEAST, MOST}) {
            edges.refused("tune(1, 0, " + v + ")", TalkBus::new, y -> y.tune(1, 0, v), BAD);
        }
        edges.at("what -1, too small, 2, too large");
        for (int what : new int[] {-1, 2, 3, 4, LEAST, MOST}) {
            edges.refused("tune(1, " + what + ", 3)", TalkBus::new, y -> y.tune(1, what, 3), BAD);
        }
        edges.at("the one is told, the other stays");
        edges.due("device(1, 4)", x.device(1, 4), 5);
        edges.due("device(2, 3)", x.device(2, 3), 1);
    }

    private void tunedDelay() {
        edges.sentence(16, "DELAY (1; a READING that is due stays due then): what it was.");
        edges.at("delay 60, the greatest, then 0, the least");
        TalkBus x = new TalkBus();
        edges.due("tune(1, 1, 60)", x.tune(1, 1, 60), 5);
        edges.due("device(1, 4)", x.device(1, 4), 60);
        edges.due("tune(1, 1, 0)", x.tune(1, 1, 0), 60);
        edges.due("device(1, 4)", x.device(1, 4), 0);
        edges.due("device(1, 3)", x.device(1, 3), 2);
        edges.at("delay -1, too small, 61, too large");
        for (int v : new int[] {-1, 61, LEAST, MOST}) {
            edges.refused("tune(1, 1, " + v + ")", TalkBus::new, y -> y.tune(1, 1, v), BAD);
        }
        edges.at("of one that is no meter");
        edges.due("tune(0, 1, 60)", x.tune(0, 1, 60), 0);
        edges.due("tune(2, 1, 7)", x.tune(2, 1, 7), 0);
        edges.due("device(2, 4)", x.device(2, 4), 7);
    }

    private void tunedAsItIs() {
        edges.sentence(16, "BAD; NO: it is so.");
        edges.at("pace as it is");
        edges.refused("tune(1, 0, 2)", TalkBus::new, x -> x.tune(1, 0, 2), NO);
        edges.at("delay as it is");
        edges.refused("tune(1, 1, 5)", TalkBus::new, x -> x.tune(1, 1, 5), NO);
        edges.refused("tune(0, 1, 0)", TalkBus::new, x -> x.tune(0, 1, 0), NO);
        edges.at("told twice");
        TalkBus x = new TalkBus();
        edges.due("tune(1, 0, 3)", x.tune(1, 0, 3), 2);
        edges.due("tune(1, 0, 3)", x.tune(1, 0, 3), NO);
        edges.at("the pace's number as delay, the delay's as pace");
        edges.due("tune(1, 1, 2)", new TalkBus().tune(1, 1, 2), 5);
        edges.due("tune(1, 0, 5)", new TalkBus().tune(1, 0, 5), 2);
        edges.at("BAD comes first: DELAY is 0, but a PACE can not be");
        edges.due("tune(0, 0, 0)", new TalkBus().tune(0, 0, 0), BAD);
    }

    private void dueStaysDue() {
        edges.sentence(16, "a READING that is due stays due then");
        edges.at("a shorter delay, and 0");
        TalkBus x = Checks.laid("d2,0,31,1,0;d1,1,31,1,20;");
        Checks.send(x, 33, 8);
        edges.due("tune(1, 1, 0)", x.tune(1, 1, 0), 20);
        edges.due("device(1, 14)", x.device(1, 14), 20);
        edges.due("sum(3)", x.sum(3), 0);
        edges.at("a longer delay");
        x.tune(1, 1, 60);
        edges.due("device(1, 14)", x.device(1, 14), 20);
        x.tick(20);
        edges.due("sum(3)", x.sum(3), 1);
        edges.at("none is due: none becomes so");
        x = new TalkBus();
        x.tune(1, 1, 0);
        edges.due("device(1, 14)", x.device(1, 14), NONE);
        x.tick(1);
        edges.due("sum(3)", x.sum(3), 0);
        edges.at("the next trigger goes by the new one");
        x = Checks.laid("d2,0,31,1,0;d1,1,31,1,20;");
        x.tune(1, 1, 9);
        Checks.send(x, 33, 8);
        edges.due("device(1, 14)", x.device(1, 14), 9);
    }
}
