/** Boundary cases of promises 7 and 8, and of the bytes given and the readings in the terms. */
final class ByteEdges {
    private static final int BAD = TalkBus.BAD, NO = TalkBus.NO, NONE = TalkBus.NONE;
    private static final String TWO = "d2,0,31,1,0;d1,4,31,1,6;";

    private final Edges edges;

    ByteEdges(Edges edges) {
        this.edges = edges;
    }

    void run() {
        givenOrNo();
        nobodyTalks();
        nobodyListens();
        emptyOut();
        fullIn();
        lookedAtAhead();
        whichByte();
        whichByteBehindTicks();
        statusWhilePolling();
        allWhoListen();
        ticksOfBytes();
        ticksToGoBy();
        dueTick();
        figuresOfReadings();
        stateByReadings();
        severalReadings();
    }

    private static TalkBus sent(int... commands) {
        TalkBus x = new TalkBus();
        Checks.send(x, commands);
        return x;
    }

    private static TalkBus sentOn(String text, int... commands) {
        TalkBus x = Checks.laid(text);
        Checks.send(x, commands);
        return x;
    }

    /** Device 5 talks and has a byte ready, device 0 listens and has so many bytes already. */
    private static TalkBus heard(int bytes) {
        TalkBus x = sent(32, 85);
        for (int n = 0; n < bytes; n++) {
            x.put(5, n);
            x.give();
        }
        x.put(5, 99);
        return x;
    }

    private static TalkBus with(TalkBus x, int d, int b) {
        x.put(d, b);
        return x;
    }

    // ---- promise 7, when it can not be

    private void givenOrNo() {
        edges.sentence(7, "A BYTE is GIVEN: it. NO: it can not be.");
        edges.at("bytes 0 and 255 are no refusals");
        edges.due("give()", with(sent(32, 85), 5, 0).give(), 0);
        edges.due("give()", with(sent(32, 85), 5, 255).give(), 255);
        edges.at("NO");
        edges.due("give()", new TalkBus().give(), NO);
        edges.at("given, then NO, then given");
        TalkBus x = with(sent(32, 85), 5, 1);
        edges.due("give()", x.give(), 1);
        edges.due("give()", x.give(), NO);
        edges.due("give()", with(x, 5, 2).give(), 2);
        edges.due("sum(1)", x.sum(1), 2);
    }

    private void nobodyTalks() {
        edges.sentence(7, "It can not be GIVEN, if nobody TALKS,");
        edges.at("a new object");
        edges.refused("give()", TalkBus::new, TalkBus::give, NO);
        edges.at("one listens, one has bytes");
        edges.refused("give()", () -> with(sent(32), 5, 7), TalkBus::give, NO);
        edges.at("while polling");
        edges.refused("give()", () -> sent(32, 24), TalkBus::give, NO);
        edges.at("one is named to talk only");
        edges.refused("give()", () -> with(sent(32, 71), 2, 7), TalkBus::give, NO);
        edges.at("one talked till 95, till charge was passed on, till it was taken back");
        edges.refused("give()", () -> with(sent(32, 85, 95), 5, 7), TalkBus::give, NO);
        edges.refused("give()", () -> with(sent(32, 85, 9), 5, 7), TalkBus::give, NO);
        TalkBus x = with(sent(32, 85), 5, 7);
        x.takeBack();
        edges.due("give()", x.give(), NO);
    }

    private void nobodyListens() {
        edges.sentence(7, "nobody LISTENS but who TALKS,");
        edges.at("nobody at all");
        edges.refused("give()", () -> with(sent(85), 5, 7), TalkBus::give, NO);
        edges.at("who talks alone");
        edges.refused("give()", () -> with(sent(53, 85), 5, 7), TalkBus::give, NO);
        edges.at("who talks alone, while polling");
        edges.refused("give()", () -> sent(53, 85, 24), TalkBus::give, NO);
        edges.at("one is named to listen only");
        edges.refused("give()", () -> with(sent(85, 39), 5, 7), TalkBus::give, NO);
        edges.at("who talks and one more");
        edges.due("give()", with(sent(32, 53, 85), 5, 7).give(), 7);
    }

    private void emptyOut() {
        edges.sentence(7, "POLLING is off and OUT is empty,");
        edges.at("polling is off");
        edges.refused("give()", () -> sent(32, 85), TalkBus::give, NO);
        edges.at("polling is on");
        edges.due("give()", sent(32, 85, 24).give(), 0);
        edges.at("one byte, then none");
        TalkBus x = with(sent(32, 85), 5, 7);
        edges.due("give()", x.give(), 7);
        edges.due("give()", x.give(), NO);
        edges.at("OUT of others is not looked at");
        edges.refused("give()", () -> with(sent(32, 85), 0, 7), TalkBus::give, NO);
    }

    private void fullIn() {
        edges.sentence(7, "or IN of one of these has 12 bytes: then nothing changes");
        edges.at("11: it is the twelfth");
        TalkBus x = heard(11);
        edges.due("give()", x.give(), 99);
        edges.due("device(0, 16)", x.device(0, 16), 12);
        edges.due("row(0, 1, 11)", x.row(0, 1, 11), 99);
        edges.at("12");
        edges.refused("give()", () -> heard(12), TalkBus::give, NO);
        edges.at("12, while polling");
        edges.refused("give()", () -> polledOn(heard(12)), TalkBus::give, NO);
        edges.at("12 of one, another listener has room");
        edges.refused("give()", () -> alsoHears(heard(12), 36), TalkBus::give, NO);
        edges.refused("give()", () -> alsoHears(heard(12), 41), TalkBus::give, NO);
        edges.at("12 of one that does not listen any more");
        x = heard(12);
        Checks.send(x, 63, 36);
        edges.due("give()", x.give(), 99);
        edges.at("12 of who talks itself");
        x = heard(12);
        Checks.send(x, 53, 64);
        x.put(0, 98);
        edges.due("give()", x.give(), 98);
        edges.due("device(0, 16)", x.device(0, 16), 12);
        edges.at("a byte is taken: there is room for one");
        x = heard(12);
        x.take(0);
        edges.due("give()", x.give(), 99);
        x.put(5, 98);
        edges.due("give()", x.give(), NO);
    }

    private static TalkBus polledOn(TalkBus x) {
        x.command(24);
        return x;
    }

    private static TalkBus alsoHears(TalkBus x, int c) {
        x.command(c);
        return x;
    }

    private void lookedAtAhead() {
        edges.sentence(7, "(that is looked at ahead of its TICKS; which byte it is behind them,"
            + " READINGS having come)");
        edges.at("OUT is empty, a reading is due in the next tick");
        edges.refused("give()", ByteEdges::readingInOneTick, TalkBus::give, NO);
        edges.at("behind that tick it can be given");
        TalkBus x = readingInOneTick();
        x.tick(1);
        edges.due("give()", x.give(), '1');
    }

    private static TalkBus readingInOneTick() {
        TalkBus x = sentOn(TWO, 32, 36, 68, 8);
        x.tick(5);
        return x;
    }

    // ---- promise 7, which byte it is

    private void whichByte() {
        edges.sentence(7, "of who TALKS (POLLING off) the first one of OUT, which is taken out;");
        edges.at("0 and 255");
        TalkBus x = sent(32, 85);
        x.put(5, 255);
        x.put(5, 0);
        edges.due("give()", x.give(), 255);
        edges.due("device(5, 15)", x.device(5, 15), 1);
        edges.due("row(5, 0, 0)", x.row(5, 0, 0), 0);
        edges.due("give()", x.give(), 0);
        edges.due("device(5, 15)", x.device(5, 15), 0);
        edges.at("twelve in their order, none lost");
        x = sent(32, 85);
        for (int n = 0; n < 12; n++) {
            x.put(5, 20 * n);
        }
        for (int n = 0; n < 12; n++) {
            edges.due("give()", x.give(), 20 * n);
        }
        for (int n = 0; n < 12; n++) {
            edges.due("take(0)", x.take(0), 20 * n);
        }
        edges.at("it asks: that stays");
        x = with(sent(32, 85), 5, 7);
        x.ask(5, 3, 1);
        edges.due("give()", x.give(), 7);
        edges.due("device(5, 10)", x.device(5, 10), 1);
    }

    /** A meter talks with two bytes ready; its reading is due in so many ticks; a byte takes 3. */
    private static TalkBus readingIn(int ticks) {
        TalkBus x = sentOn(TWO, 32, 36, 68, 8);
        x.put(1, 200);
        x.put(1, 201);
        x.tick(6 - ticks);
        return x;
    }

    private void whichByteBehindTicks() {
        edges.sentence(7, "which byte it is behind them, READINGS having come");
        edges.at("a reading in the last tick of the byte");
        TalkBus x = readingIn(3);
        edges.due("give()", x.give(), '1');
        edges.due("device(1, 15)", x.device(1, 15), 1);
        edges.due("row(1, 0, 0)", x.row(1, 0, 0), '9');
        edges.due("row(0, 1, 0)", x.row(0, 1, 0), '1');
        edges.at("a reading one tick behind the byte");
        x = readingIn(4);
        edges.due("give()", x.give(), 200);
        edges.due("device(1, 14)", x.device(1, 14), 1);
        edges.due("row(1, 0, 0)", x.row(1, 0, 0), 201);
        edges.at("a reading in the first tick of the byte");
        edges.due("give()", readingIn(1).give(), '1');
        edges.at("while polling: the status of the reading, and it asks no more");
        x = sentOn(TWO, 32, 36, 68, 24, 8);
        x.ask(1, 5, 0);
        x.tick(3);
        edges.due("give()", x.give(), 64 + 16);
        edges.due("device(1, 10)", x.device(1, 10), 0);
        edges.due("device(1, 15)", x.device(1, 15), 2);
        edges.at("while polling, a reading one tick behind: it asks then");
        x = sentOn(TWO, 32, 36, 68, 24, 8);
        x.ask(1, 5, 0);
        x.tick(2);
        edges.due("give()", x.give(), 5);
        x.tick(1);
        edges.due("device(1, 10)", x.device(1, 10), 1);
    }

    private void statusWhilePolling() {
        edges.sentence(7, "with POLLING on its STATUS, and 64 if it ASKS (it does not ASK any more then)");
        edges.at("status 0 and it does not ask");
        edges.due("give()", sent(32, 85, 24).give(), 0);
        edges.at("status 63 and it asks");
        TalkBus x = sent(32, 85, 24);
        x.put(5, 7);
        x.ask(5, 63, 1);
        edges.due("give()", x.give(), 127);
        edges.at("it does not ask then, its status and OUT stay");
        edges.due("device(5, 10)", x.device(5, 10), 0);
        edges.due("device(5, 9)", x.device(5, 9), 63);
        edges.due("device(5, 15)", x.device(5, 15), 1);
        edges.due("give()", x.give(), 63);
        edges.at("status 0 and it asks");
        x.ask(5, 0, 1);
        edges.due("give()", x.give(), 64);
        edges.at("others that ask go on");
        x.ask(0, 1, 1);
        x.ask(5, 1, 1);
        x.give();
        edges.due("device(0, 10)", x.device(0, 10), 1);
    }

    private void allWhoListen() {
        edges.sentence(7, "All who LISTEN (but who TALKS itself) have it behind their IN.");
        edges.at("the first, the last, not who does not listen");
        TalkBus x = with(sent(32, 53, 73), 4, 200);
        x.give();
        int[] in = {1, 0, 0, 0, 0, 1};
        for (int d = 0; d < 6; d++) {
            edges.due("device(" + d + ", 16)", x.device(d, 16), in[d]);
        }
        edges.due("row(5, 1, 0)", x.row(5, 1, 0), 200);
        edges.at("not who talks itself");
        x = with(sent(32, 36, 41, 73), 4, 200);
        x.give();
        edges.due("device(4, 16)", x.device(4, 16), 0);
        edges.due("device(1, 16)", x.device(1, 16), 1);
        edges.due("sum(2)", x.sum(2), 2);
        edges.at("behind, not ahead");
        x.put(4, 201);
        x.give();
        edges.due("row(0, 1, 0)", x.row(0, 1, 0), 200);
        edges.due("row(0, 1, 1)", x.row(0, 1, 1), 201);
    }

    private void ticksOfBytes() {
        edges.sentence(7, "It takes as many TICKS as the greatest PACE of these, and 2, ahead of all that.");
        edges.at("pace 1");
        TalkBus x = with(sentOn("d2,0,31,1,0;d0,1,31,9,0;d0,2,31,9,0;", 32, 33, 65), 1, 7);
        edges.due("bus(6)", x.bus(6), 3);
        x.give();
        edges.due("bus(4)", x.bus(4), 27 + 3);
        edges.at("pace 9, of the last, of the first listener");
        x = with(sentOn("d2,0,31,1,0;d0,1,31,1,0;d0,2,31,9,0;", 32, 34, 65), 1, 7);
        x.give();
        edges.due("bus(4)", x.bus(4), 27 + 11);
        x = with(sentOn("d2,0,31,9,0;d0,1,31,1,0;d0,2,31,1,0;", 32, 34, 65), 1, 7);
        x.give();
        edges.due("bus(4)", x.bus(4), 27 + 11);
        edges.at("a byte while polling takes as long");
        x = sentOn("d2,0,31,4,0;d0,1,31,1,0;", 32, 65, 24);
        x.give();
        edges.due("bus(4)", x.bus(4), 12 + 6);
        edges.at("a reading of another comes in them");
        x = with(sentOn("d2,0,31,1,0;d1,4,31,1,3;d0,5,31,1,0;", 32, 36, 69, 8), 2, 7);
        x.give();
        edges.due("sum(3)", x.sum(3), 1);
        x = with(sentOn("d2,0,31,1,0;d1,4,31,1,4;d0,5,31,1,0;", 32, 36, 69, 8), 2, 7);
        x.give();
        edges.due("sum(3)", x.sum(3), 0);
    }

    // ---- promise 8

    private void ticksToGoBy() {
        edges.sentence(8, "n TICKS (1 to 500) go by: NOW. BAD.");
        edges.at("1, the least");
        edges.due("tick(1)", new TalkBus().tick(1), 1);
        edges.at("500, the greatest");
        edges.due("tick(500)", new TalkBus().tick(500), 500);
        edges.at("0, too small");
        edges.refused("tick(0)", () -> sent(36, 8), x -> x.tick(0), BAD);
        edges.at("501, too large");
        edges.refused("tick(501)", () -> sent(36, 8), x -> x.tick(501), BAD);
        edges.at("-1 and the ends of int");
        for (int n : new int[] {-1, Integer.MIN_VALUE, Integer.MAX_VALUE}) {
            edges.refused("tick(" + n + ")", () -> sent(36, 8), x -> x.tick(n), BAD);
        }
        edges.at("as many as calls allow");
        TalkBus x = new TalkBus();
        for (int n = 1; n <= 510; n++) {
            edges.due("tick(500)", x.tick(500), 500 * n);
        }
        edges.at("nothing else happens");
        TalkBus y = sent(36, 39);
        String before = Checks.stateOf(y);
        TalkBus later = sent(36, 39);
        later.tick(7);
        edges.holds("all but NOW is alike",
            Checks.stateOf(later).equals(before.replaceFirst(" 10 ", " 17 ")));
    }

    private void dueTick() {
        edges.sentence(8, "A READING that is due comes as soon as NOW is that TICK");
        edges.at("one tick ahead of it");
        TalkBus x = sentOn(TWO, 36, 8);
        x.tick(5);
        edges.due("device(1, 14)", x.device(1, 14), 1);
        edges.due("device(1, 15)", x.device(1, 15), 0);
        edges.due("device(1, 10)", x.device(1, 10), 0);
        edges.at("that tick");
        x.tick(1);
        edges.due("device(1, 14)", x.device(1, 14), NONE);
        edges.due("device(1, 15)", x.device(1, 15), 2);
        edges.due("sum(3)", x.sum(3), 1);
        edges.at("far behind it: once");
        x = sentOn(TWO, 36, 8);
        x.tick(500);
        edges.due("sum(3)", x.sum(3), 1);
        x.tick(500);
        edges.due("sum(3)", x.sum(3), 1);
        edges.at("delay 60");
        x = sentOn("d2,0,31,1,0;d1,4,31,1,60;", 36, 8);
        x.tick(59);
        edges.due("sum(3)", x.sum(3), 0);
        x.tick(1);
        edges.due("sum(3)", x.sum(3), 1);
    }

    private void reading(int address, int triggers, int tens, int ones) {
        TalkBus x = sentOn("d2,0,3,1,0;d1," + address + ",4,1,0;", 32 + address, 100);
        for (int n = 0; n < triggers; n++) {
            x.command(8);
        }
        String told = " of a meter at " + address + " behind " + triggers;
        edges.due("row(1, 0, 0)" + told, x.row(1, 0, 0), tens);
        edges.due("row(1, 0, 1)" + told, x.row(1, 0, 1), ones);
        edges.due("device(1, 15)" + told, x.device(1, 15), 2);
    }

    private void figuresOfReadings() {
        edges.sentence(8, "OUT of that METER is two bytes, figures as in ASCII of (7 TRIGGERS and 3 ADDRESS)"
            + " modulo 100, tens first");
        edges.at("below ten: 07");
        reading(0, 1, '0', '7');
        edges.at("tens first: 34");
        reading(9, 1, '3', '4');
        edges.at("97, 104, over 100");
        reading(30, 1, '9', '7');
        reading(30, 2, '0', '4');
        edges.at("99, the greatest");
        reading(5, 12, '9', '9');
        edges.at("100: 00");
        reading(3, 13, '0', '0');
        edges.at("200: 00");
        reading(20, 20, '0', '0');
        edges.at("2890, of 400 triggers");
        reading(30, 400, '9', '0');
        edges.at("in place of what OUT was, if it was full");
        TalkBus x = sentOn(TWO, 36, 8);
        for (int n = 0; n < 12; n++) {
            x.put(1, 100 + n);
        }
        x.tick(6);
        edges.due("device(1, 15)", x.device(1, 15), 2);
        edges.due("row(1, 0, 0)", x.row(1, 0, 0), '1');
        edges.due("row(1, 0, 2)", x.row(1, 0, 2), NONE);
    }

    private void stateByReadings() {
        edges.sentence(8, "STATUS is 16, it ASKS");
        edges.at("it did not ask, it did ask");
        for (int asks = 0; asks <= 1; asks++) {
            TalkBus x = sentOn(TWO, 36, 8);
            x.ask(1, 63, asks);
            x.tick(6);
            edges.due("device(1, 9)", x.device(1, 9), 16);
            edges.due("device(1, 10)", x.device(1, 10), 1);
        }
        edges.at("IN stays, and who listens");
        TalkBus x = with(sentOn(TWO, 36, 64, 8), 0, 7);
        x.give();
        x.tick(6);
        edges.due("device(1, 16)", x.device(1, 16), 1);
        edges.due("bus(1)", x.bus(1), 2);
        edges.at("a meter that does not listen any more");
        x = sentOn(TWO, 36, 8, 63);
        x.tick(6);
        edges.due("sum(3)", x.sum(3), 1);
    }

    private void severalReadings() {
        edges.sentence(8, "of several at one TICK all come.");
        edges.at("two at one tick");
        TalkBus x = sentOn("d2,0,31,1,0;d1,4,31,1,6;d1,5,31,1,6;", 36, 37, 8);
        x.tick(5);
        edges.due("sum(3)", x.sum(3), 0);
        x.tick(1);
        edges.due("sum(3)", x.sum(3), 2);
        edges.due("row(1, 0, 1)", x.row(1, 0, 1), '9');
        edges.due("row(2, 0, 1)", x.row(2, 0, 1), '2');
        edges.at("two one tick apart");
        x = sentOn("d2,0,31,1,0;d1,4,31,1,7;d1,5,31,1,6;", 36, 37, 8);
        x.tick(6);
        edges.due("sum(3)", x.sum(3), 1);
        edges.due("device(1, 14)", x.device(1, 14), 1);
        edges.at("five at one tick");
        x = sentOn("d2,0,31,1,0;d1,1,31,1,2;d1,2,31,1,2;d1,3,31,1,2;d1,4,31,1,2;d1,5,31,1,2;",
            33, 34, 35, 36, 37, 8);
        x.tick(2);
        edges.due("sum(3)", x.sum(3), 5);
    }
}
