/** Boundary cases of promises 17 to 21, of the log, and of the order of BAD, NO, NONE, FULL. */
final class LookEdges {
    private static final int BAD = TalkBus.BAD, NO = TalkBus.NO, FULL = TalkBus.FULL, NONE = TalkBus.NONE;
    private static final int LEAST = Integer.MIN_VALUE, MOST = Integer.MAX_VALUE;

    private final Edges edges;

    LookEdges(Edges edges) {
        this.edges = edges;
    }

    void run() {
        whatOfDevices();
        flagsOfDevices();
        linesOfDevices();
        readingsOfDevices();
        bytesOfDevices();
        rows();
        rowsNotSoMany();
        whatOfTheBus();
        ofTheBus();
        nextByte();
        whatOfSums();
        sums();
        sumsSinceLaid();
        whatOfTheLog();
        logOfSixteen();
        howManyInTheLog();
        logNotSoMany();
        logTells();
        orderOfRefusals();
        nothingChanges();
    }

    private static TalkBus sent(int... commands) {
        TalkBus x = new TalkBus();
        Checks.send(x, commands);
        return x;
    }

    private static TalkBus sentOn(String text, int... commands) {
        TalkBus x = Checks.laid(text);
        Checks.send(x, commands);
        return x;
    }

    /** Much is set, so that a look that changed something would be seen. */
    private static TalkBus busy() {
        TalkBus x = sent(32, 36, 17, 5, 107, 8, 85);
        for (int n = 0; n < 12; n++) {
            x.put(5, n);
            x.put(4, 20 + n);
        }
        x.give();
        x.give();
        x.ask(3, 9, 1);
        Checks.tell(x, "d2,0,31,1,0;x");
        Checks.send(x, 39);
        return x;
    }

    // ---- promise 17

    private void whatOfDevices() {
        edges.sentence(17, "Of a DEVICE: KIND (what = 0), ADDRESS (1), SECOND (2), PACE (3), DELAY (4)");
        edges.at("0, the least, and the greatest numbers");
        TalkBus x = sentOn("d2,30,31,9,60;d0,0,0,1,0;d1,29,30,2,1;");
        int[][] want = {{2, 30, 31, 9, 60}, {0, 0, 0, 1, 0}, {1, 29, 30, 2, 1}};
        for (int d = 0; d < 3; d++) {
            for (int what = 0; what <= 4; what++) {
                edges.due("device(" + d + ", " + what + ")", x.device(d, what), want[d][what]);
            }
        }
        edges.at("what = -1, too small, 18, too large, the ends of int");
        for (int what : new int[] {-1, 18, LEAST, MOST}) {
            edges.refused("device(0, " + what + ")", LookEdges::busy, y -> y.device(0, what), BAD);
        }
        edges.at("what = 17, the greatest");
        edges.due("device(0, 17)", x.device(0, 17), 0);
        edges.at("d = -1, 6, the ends of int, one more than are laid");
        for (int what = 0; what <= 17; what++) {
            for (int d : new int[] {-1, 6, LEAST, MOST}) {
                edges.due("device(" + d + ", " + what + ")", new TalkBus().device(d, what), BAD);
            }
            edges.due("device(3, " + what + ")", x.device(3, what), BAD);
        }
    }

    private void flagsOfDevices() {
        edges.sentence(17, "1 if it TALKS (5; else 0), LISTENS (6), is REMOTE (7), LOCKED (8), STATUS (9), ASKS (10)");
        edges.at("each alone is 1, then 0");
        TalkBus x = sent(68);
        edges.due("device(1, 5)", x.device(1, 5), 1);
        edges.due("device(1, 6)", x.device(1, 6), 0);
        x = sent(36);
        edges.due("device(1, 5)", x.device(1, 5), 0);
        edges.due("device(1, 6)", x.device(1, 6), 1);
        edges.due("device(1, 7)", x.device(1, 7), 1);
        edges.due("device(1, 8)", x.device(1, 8), 0);
        x.command(63);
        edges.due("device(1, 6)", x.device(1, 6), 0);
        edges.due("device(1, 7)", x.device(1, 7), 1);
        x = sent(17);
        edges.due("device(1, 7)", x.device(1, 7), 0);
        edges.due("device(1, 8)", x.device(1, 8), 1);
        edges.at("status 63, without asking and with it");
        x.ask(1, 63, 0);
        edges.due("device(1, 9)", x.device(1, 9), 63);
        edges.due("device(1, 10)", x.device(1, 10), 0);
        x.ask(1, 63, 1);
        edges.due("device(1, 9)", x.device(1, 9), 63);
        edges.due("device(1, 10)", x.device(1, 10), 1);
        edges.sentence(17, "NAMED to listen 1, to talk 2, neither 0 (17)");
        edges.at("neither, to listen, to talk, neither");
        x = new TalkBus();
        int[][] steps = {{0, 0}, {39, 1}, {71, 2}, {97, 0}, {39, 1}, {97, 0}};
        for (int[] step : steps) {
            x.command(step[0]);
            edges.due("device(2, 17) behind " + step[0], x.device(2, 17), step[1]);
        }
        edges.at("one without a second is never named");
        edges.due("device(1, 17)", sent(36).device(1, 17), 0);
        edges.due("device(1, 17)", sent(68).device(1, 17), 0);
    }

    private void linesOfDevices() {
        edges.sentence(17, "LINE (11; NONE), SENSE (12; NONE without a LINE)");
        edges.at("none");
        edges.due("device(1, 11)", new TalkBus().device(1, 11), NONE);
        edges.due("device(1, 12)", new TalkBus().device(1, 12), NONE);
        edges.at("line 0 and sense 0 are not none");
        TalkBus x = sent(36, 5, 96);
        edges.due("device(1, 11)", x.device(1, 11), 0);
        edges.due("device(1, 12)", x.device(1, 12), 0);
        edges.at("line 7 and sense 1");
        Checks.send(x, 5, 111);
        edges.due("device(1, 11)", x.device(1, 11), 7);
        edges.due("device(1, 12)", x.device(1, 12), 1);
        edges.at("none again");
        Checks.send(x, 5, 112);
        edges.due("device(1, 11)", x.device(1, 11), NONE);
        edges.due("device(1, 12)", x.device(1, 12), NONE);
    }

    private void readingsOfDevices() {
        edges.sentence(17, "TRIGGERS (13), TICKS till its READING is due (14; NONE)");
        edges.at("none, 60, 1, none");
        TalkBus x = sentOn("d2,0,31,1,0;d1,4,31,1,60;", 36);
        edges.due("device(1, 13)", x.device(1, 13), 0);
        edges.due("device(1, 14)", x.device(1, 14), NONE);
        x.command(8);
        edges.due("device(1, 13)", x.device(1, 13), 1);
        edges.due("device(1, 14)", x.device(1, 14), 60);
        x.tick(59);
        edges.due("device(1, 14)", x.device(1, 14), 1);
        x.tick(1);
        edges.due("device(1, 14)", x.device(1, 14), NONE);
        edges.at("of one that is no meter");
        x = sent(32, 8);
        edges.due("device(0, 13)", x.device(0, 13), 1);
        edges.due("device(0, 14)", x.device(0, 14), NONE);
    }

    private void bytesOfDevices() {
        edges.sentence(17, "bytes of OUT (15), of IN (16)");
        edges.at("0 and 12 of each");
        TalkBus x = sent(32, 85);
        edges.due("device(0, 15)", x.device(0, 15), 0);
        edges.due("device(0, 16)", x.device(0, 16), 0);
        for (int n = 0; n < 12; n++) {
            x.put(5, n);
            x.give();
            x.put(0, n);
        }
        edges.due("device(0, 15)", x.device(0, 15), 12);
        edges.due("device(0, 16)", x.device(0, 16), 12);
        edges.due("device(5, 15)", x.device(5, 15), 0);
    }

    // ---- promise 18

    private void rows() {
        edges.sentence(18, "The i-th byte of OUT (of = 0), IN (1) of a DEVICE, the first that came first.");
        edges.at("the first and the twelfth of each");
        TalkBus x = sent(32, 85);
        for (int n = 0; n < 12; n++) {
            x.put(5, 100 + n);
            x.give();
        }
        for (int n = 0; n < 12; n++) {
            x.put(0, 50 + n);
        }
        edges.due("row(0, 0, 0)", x.row(0, 0, 0), 50);
        edges.due("row(0, 0, 11)", x.row(0, 0, 11), 61);
        edges.due("row(0, 1, 0)", x.row(0, 1, 0), 100);
        edges.due("row(0, 1, 11)", x.row(0, 1, 11), 111);
        edges.at("of = -1, too small, 2, too large, the ends of int");
        for (int of : new int[] {-1, 2, LEAST, MOST}) {
            edges.refused("row(5, " + of + ", 0)", LookEdges::busy, y -> y.row(5, of, 0), BAD);
        }
        edges.at("d = -1, 6, the ends of int");
        for (int d : new int[] {-1, 6, LEAST, MOST}) {
            edges.refused("row(" + d + ", 0, 0)", LookEdges::busy, y -> y.row(d, 0, 0), BAD);
            edges.refused("row(" + d + ", 1, 0)", LookEdges::busy, y -> y.row(d, 1, 0), BAD);
        }
        edges.at("one more than are laid");
        edges.due("row(1, 0, 0)", sentOn("d2,0,31,1,0;").row(1, 0, 0), BAD);
        edges.at("it is not taken out");
        edges.refused("row(0, 1, 0)", LookEdges::busy, y -> y.row(0, 1, 0), 0);
    }

    private void rowsNotSoMany() {
        edges.sentence(18, "BAD (i below 0); NONE: not so many.");
        edges.at("i = -1 and the least int");
        for (int of = 0; of <= 1; of++) {
            int which = of;
            edges.refused("row(0, " + of + ", -1)", LookEdges::busy, x -> x.row(0, which, -1), BAD);
            edges.refused("row(0, " + of + ", least)", LookEdges::busy, x -> x.row(0, which, LEAST), BAD);
        }
        edges.at("an empty row");
        edges.refused("row(0, 0, 0)", LookEdges::busy, x -> x.row(0, 0, 0), NONE);
        edges.refused("row(5, 1, 0)", LookEdges::busy, x -> x.row(5, 1, 0), NONE);
        edges.at("one behind the last");
        edges.due("row(5, 0, 9)", busy().row(5, 0, 9), 11);
        edges.refused("row(5, 0, 10)", LookEdges::busy, x -> x.row(5, 0, 10), NONE);
        edges.due("row(0, 1, 1)", busy().row(0, 1, 1), 1);
        edges.refused("row(0, 1, 2)", LookEdges::busy, x -> x.row(0, 1, 2), NONE);
        edges.at("12 of a full row, and the greatest int");
        edges.due("row(4, 0, 11)", busy().row(4, 0, 11), 31);
        edges.refused("row(4, 0, 12)", LookEdges::busy, x -> x.row(4, 0, 12), NONE);
        edges.refused("row(4, 0, most)", LookEdges::busy, x -> x.row(4, 0, MOST), NONE);
        edges.at("bytes that were taken out are none behind the last");
        TalkBus x = busy();
        x.take(0);
        edges.due("row(0, 1, 0)", x.row(0, 1, 0), 1);
        edges.due("row(0, 1, 1)", x.row(0, 1, 1), NONE);
    }

    // ---- promise 19

    private void whatOfTheBus() {
        edges.sentence(19, "letters of THE TEXT (8). BAD.");
        edges.at("what = -1, too small, 9, too large, the ends of int");
        for (int what : new int[] {-1, 9, LEAST, MOST}) {
            edges.refused("bus(" + what + ")", LookEdges::busy, x -> x.bus(what), BAD);
        }
        edges.at("none, and 200");
        TalkBus x = new TalkBus();
        edges.due("bus(8)", x.bus(8), 0);
        Checks.tell(x, "d".repeat(200));
        edges.due("bus(8)", x.bus(8), 200);
    }

    private void ofTheBus() {
        edges.sentence(19, "who TALKS (what = 0; NONE), LISTENERS, as bits (1), who is in CHARGE (2),"
            + " POLLING (3: 1, 0), NOW (4), whether some DEVICE ASKS (5: 1, 0)");
        edges.at("who talks: none, the first, the last");
        edges.due("bus(0)", new TalkBus().bus(0), NONE);
        edges.due("bus(0)", sent(64).bus(0), 0);
        edges.due("bus(0)", sent(85).bus(0), 5);
        edges.at("listeners: none, the first, the last, all");
        edges.due("bus(1)", new TalkBus().bus(1), 0);
        edges.due("bus(1)", sent(32).bus(1), 1);
        edges.due("bus(1)", sent(53).bus(1), 32);
        edges.due("bus(1)", sent(32, 36, 39, 97, 39, 98, 41, 53).bus(1), 63);
        edges.at("who talks and listens is a listener");
        edges.due("bus(1)", sent(36, 68).bus(1), 2);
        edges.at("who is in charge: the first, the last");
        edges.due("bus(2)", new TalkBus().bus(2), 0);
        edges.due("bus(2)", sent(85, 9).bus(2), 5);
        edges.at("polling");
        edges.due("bus(3)", sent(24).bus(3), 1);
        edges.due("bus(3)", sent(24, 25).bus(3), 0);
        edges.at("some device asks: none, each alone");
        edges.due("bus(5)", new TalkBus().bus(5), 0);
        for (int d = 0; d < 6; d++) {
            TalkBus x = new TalkBus();
            x.ask(d, 63, 0);
            edges.due("bus(5)", x.bus(5), 0);
            x.ask(d, 0, 1);
            edges.due("bus(5)", x.bus(5), 1);
        }
        edges.at("one that asked and is laid no more");
        TalkBus x = new TalkBus();
        x.ask(5, 1, 1);
        x.command(53);
        Checks.tell(x, "d2,0,31,1,0;");
        x.lay();
        edges.due("bus(5)", x.bus(5), 0);
        edges.due("bus(1)", x.bus(1), 0);
        edges.sentence(19, "how many DEVICES (7)");
        edges.at("one and six");
        edges.due("bus(7)", x.bus(7), 1);
        edges.due("bus(7)", new TalkBus().bus(7), 6);
    }

    private void nextByte() {
        edges.sentence(19, "how many TICKS the next BYTE would take (6; NO: none can be GIVEN)");
        edges.at("nobody talks, nobody listens but who talks, OUT is empty, IN is full");
        edges.due("bus(6)", new TalkBus().bus(6), NO);
        edges.due("bus(6)", sent(32).bus(6), NO);
        edges.due("bus(6)", sent(53, 85, 24).bus(6), NO);
        edges.due("bus(6)", sent(32, 85).bus(6), NO);
        TalkBus x = sent(32, 85);
        for (int n = 0; n < 12; n++) {
            x.put(5, n);
            x.give();
        }
        x.put(5, 9);
        edges.due("bus(6)", x.bus(6), NO);
        edges.at("one of a full IN is taken");
        x.take(0);
        edges.due("bus(6)", x.bus(6), 3);
        edges.at("pace 1 and 9");
        edges.due("bus(6)", sentOn("d2,0,31,1,0;d0,1,31,9,0;", 32, 65, 24).bus(6), 3);
        edges.due("bus(6)", sentOn("d2,0,31,9,0;d0,1,31,1,0;", 32, 65, 24).bus(6), 11);
        edges.at("the slowest of several, not of who talks");
        edges.due("bus(6)", sent(32, 36, 41, 73, 24).bus(6), 4);
        edges.at("it gives nothing");
        edges.refused("bus(6)", LookEdges::busy, y -> y.bus(6), 4);
    }

    // ---- promise 20

    private void whatOfSums() {
        edges.sentence(20, "DEVICES TRIGGERED, each time counted (7). BAD.");
        edges.at("what = -1, too small, 8, too large, the ends of int");
        for (int what : new int[] {-1, 8, LEAST, MOST}) {
            edges.refused("sum(" + what + ")", LookEdges::busy, x -> x.sum(what), BAD);
        }
        edges.at("each time counted, of all kinds");
        edges.due("sum(7)", sent(8).sum(7), 0);
        edges.due("sum(7)", sent(32, 8).sum(7), 1);
        edges.due("sum(7)", sent(32, 36, 39, 97, 8, 8).sum(7), 6);
    }

    private void sums() {
        edges.sentence(20, "COMMANDS (what = 0), BYTES GIVEN (1), bytes taken by listeners, each counted (2),"
            + " READINGS that came (3)");
        edges.at("a refused command and byte are not counted");
        TalkBus x = new TalkBus();
        x.command(128);
        x.give();
        edges.due("sum(0)", x.sum(0), 0);
        edges.due("sum(1)", x.sum(1), 0);
        edges.at("more than the log keeps");
        x = new TalkBus();
        for (int n = 0; n < 40; n++) {
            x.command(0);
        }
        edges.due("sum(0)", x.sum(0), 40);
        edges.at("those of polls");
        x.poll();
        edges.due("sum(0)", x.sum(0), 52);
        edges.due("sum(1)", x.sum(1), 5);
        edges.due("sum(2)", x.sum(2), 5);
        edges.at("a byte to five");
        x = sent(32, 36, 39, 97, 39, 98, 41, 53, 85, 24);
        x.give();
        edges.due("sum(1)", x.sum(1), 1);
        edges.due("sum(2)", x.sum(2), 5);
        edges.at("a byte that is taken from IN is not counted again");
        x.take(0);
        edges.due("sum(2)", x.sum(2), 5);
        edges.at("a reading that was replaced or cleared did not come");
        x = sentOn("d2,0,31,1,0;d1,4,31,1,9;", 36, 8, 8);
        edges.due("sum(3)", x.sum(3), 0);
        x.command(4);
        x.tick(50);
        edges.due("sum(3)", x.sum(3), 0);
        edges.sentence(20, "POLLS one by one (4), DEVICES found by these (5), how often CHARGE was passed on (6)");
        edges.at("a poll that found none, one that found one");
        x = new TalkBus();
        x.poll();
        edges.due("sum(4)", x.sum(4), 1);
        edges.due("sum(5)", x.sum(5), 0);
        x.ask(5, 0, 1);
        x.poll();
        edges.due("sum(4)", x.sum(4), 2);
        edges.due("sum(5)", x.sum(5), 1);
        edges.at("a poll at once is none of these");
        x.parallel();
        edges.due("sum(4)", x.sum(4), 2);
        edges.at("an asking device found by a byte alone is none of these");
        x = sent(32, 85, 24);
        x.ask(5, 0, 1);
        x.give();
        edges.due("sum(5)", x.sum(5), 0);
        edges.at("charge that was not passed on, that was, that was taken back");
        x = sent(9, 64, 9, 68, 9);
        edges.due("sum(6)", x.sum(6), 0);
        Checks.send(x, 85, 9);
        edges.due("sum(6)", x.sum(6), 1);
        x.takeBack();
        edges.due("sum(6)", x.sum(6), 1);
        Checks.send(x, 85, 9, 64, 9);
        edges.due("sum(6)", x.sum(6), 3);
    }

    private void sumsSinceLaid() {
        edges.sentence(20, "Since it was LAID:");
        edges.at("all are 0 behind lay, and count again");
        TalkBus x = sent(36, 41, 8, 85, 9, 32, 73);
        x.give();
        x.ask(0, 0, 1);
        x.poll();
        for (int what = 0; what <= 7; what++) {
            edges.holds("sum(" + what + ") was more", x.sum(what) > 0);
        }
        Checks.tell(x, "d2,0,31,1,0;");
        edges.at("a refused lay leaves them");
        x.write('x');
        x.lay();
        edges.due("sum(6)", x.sum(6), 1);
        edges.at("laid");
        x.wipe();
        Checks.tell(x, "d2,0,31,1,0;");
        x.lay();
        for (int what = 0; what <= 7; what++) {
            edges.due("sum(" + what + ")", x.sum(what), 0);
        }
        x.command(0);
        edges.due("sum(0)", x.sum(0), 1);
    }

    // ---- promise 21

    private void whatOfTheLog() {
        edges.sentence(21, "of the i-th, the latest first, the TICK (what = 0), the byte (1), who was in CHARGE (2).");
        edges.at("what = 0, 1, 2");
        TalkBus x = sent(85, 9, 64);
        int[][] want = {{10, 64, 5}, {5, 9, 0}, {0, 85, 0}};
        for (int i = 0; i < 3; i++) {
            for (int what = 0; what <= 2; what++) {
                edges.due("log(" + i + ", " + what + ")", x.log(i, what), want[i][what]);
            }
        }
        edges.at("what = -1, too small, 3, too large, the ends of int");
        for (int what : new int[] {-1, 3, LEAST, MOST}) {
            edges.refused("log(0, " + what + ")", LookEdges::busy, y -> y.log(0, what), BAD);
            edges.refused("log(-1, " + what + ")", LookEdges::busy, y -> y.log(-1, what), BAD);
        }
        edges.sentence(21, "BAD (i below -1);");
        edges.at("i = -2 and the least int");
        for (int what = 0; what <= 2; what++) {
            int which = what;
            edges.refused("log(-2, " + what + ")", LookEdges::busy, y -> y.log(-2, which), BAD);
            edges.refused("log(least, " + what + ")", LookEdges::busy, y -> y.log(LEAST, which), BAD);
        }
    }

    private void logOfSixteen() {
        edges.sentence(21, "THE LOG keeps the latest 16 COMMANDS (those of POLLS, too)");
        edges.at("none to 40: how many, and the oldest that is kept");
        TalkBus x = new TalkBus();
        edges.due("log(-1, 0)", x.log(-1, 0), 0);
        for (int n = 1; n <= 40; n++) {
            x.command(n % 3 == 0 ? 127 : 2);
            int kept = Math.min(n, 16);
            edges.due("log(-1, 2) of " + n, x.log(-1, 2), kept);
            edges.due("log(oldest, 0) of " + n, x.log(kept - 1, 0), 5 * (n - kept));
            edges.due("log(oldest, 1) of " + n, x.log(kept - 1, 1), (n - kept + 1) % 3 == 0 ? 127 : 2);
            edges.due("log(0, 0) of " + n, x.log(0, 0), 5 * (n - 1));
        }
        edges.at("those of polls");
        x = new TalkBus();
        x.poll();
        edges.due("log(-1, 0)", x.log(-1, 0), 12);
        edges.due("log(11, 1)", x.log(11, 1), 63);
        edges.due("log(0, 1)", x.log(0, 1), 95);
        x.poll();
        edges.due("log(-1, 0)", x.log(-1, 0), 16);
        edges.due("log(15, 1)", x.log(15, 1), 73);
        edges.at("bytes, ticks, polls at once, what is taken back are none");
        x = sent(32, 85);
        x.put(5, 1);
        x.give();
        x.tick(3);
        x.parallel();
        x.takeBack();
        edges.due("log(-1, 0)", x.log(-1, 0), 2);
        edges.due("log(0, 1)", x.log(0, 1), 85);
    }

    private void howManyInTheLog() {
        edges.sentence(21, "THE LOG: how many COMMANDS (i = -1);");
        edges.at("none, one, 15, 16, and 16 behind more");
        TalkBus x = new TalkBus();
        for (int n = 0; n <= 18; n++) {
            for (int what = 0; what <= 2; what++) {
                edges.due("log(-1, " + what + ") of " + n, x.log(-1, what), n < 16 ? n : 16);
            }
            x.command(0);
        }
        edges.at("none behind lay, then one");
        Checks.tell(x, "d2,0,31,1,0;");
        x.lay();
        edges.due("log(-1, 0)", x.log(-1, 0), 0);
        x.command(0);
        edges.due("log(-1, 0)", x.log(-1, 0), 1);
        edges.due("log(1, 1)", x.log(1, 1), NONE);
    }

    private void logNotSoMany() {
        edges.sentence(21, "NONE: not so many.");
        edges.at("an empty log");
        for (int what = 0; what <= 2; what++) {
            int which = what;
            edges.refused("log(0, " + what + ")", TalkBus::new, x -> x.log(0, which), NONE);
        }
        edges.at("one behind the oldest");
        edges.due("log(1, 1)", sent(7).log(1, 1), NONE);
        edges.due("log(0, 1)", sent(7).log(0, 1), 7);
        edges.at("16 of a full log, and the greatest int");
        TalkBus x = new TalkBus();
        for (int n = 0; n < 20; n++) {
            x.command(n);
        }
        edges.due("log(15, 1)", x.log(15, 1), 4);
        edges.due("log(16, 1)", x.log(16, 1), NONE);
        edges.due("log(most, 1)", x.log(MOST, 1), NONE);
    }

    private void logTells() {
        edges.sentence(21, "the TICK (NOW ahead of it), the byte, who was in CHARGE.");
        edges.at("the first at tick 0");
        edges.due("log(0, 0)", sent(0).log(0, 0), 0);
        edges.at("behind ticks of its own");
        TalkBus x = new TalkBus();
        x.tick(500);
        x.command(127);
        edges.due("log(0, 0)", x.log(0, 0), 500);
        edges.due("log(0, 1)", x.log(0, 1), 127);
        edges.at("a 9 was sent by who was in charge ahead of it");
        x = sent(85, 9);
        edges.due("log(0, 2)", x.log(0, 2), 0);
        x.command(0);
        edges.due("log(0, 2)", x.log(0, 2), 5);
        edges.at("a refused command is none");
        x.command(128);
        edges.due("log(0, 1)", x.log(0, 1), 0);
        edges.due("log(-1, 0)", x.log(-1, 0), 3);
    }

    // ---- all promises: the order of refusals

    private void orderOfRefusals() {
        edges.sentence(2, "Of several the first in this order, whatever the order at a call");
        edges.at("write: BAD ahead of FULL");
        TalkBus x = new TalkBus();
        Checks.tell(x, "d".repeat(200));
        edges.due("write(0)", x.write(0), BAD);
        edges.due("write('d')", x.write('d'), FULL);
        edges.sentence(12, "Of several the first in this order, whatever the order at a call");
        edges.at("put: BAD ahead of FULL");
        edges.due("put(4, 256)", busy().put(4, 256), BAD);
        edges.due("put(4, 255)", busy().put(4, 255), FULL);
        edges.sentence(16, "Of several the first in this order, whatever the order at a call");
        edges.at("tune: BAD ahead of NO");
        edges.due("tune(6, 0, 1)", new TalkBus().tune(6, 0, 1), BAD);
        edges.due("tune(0, 2, 1)", new TalkBus().tune(0, 2, 1), BAD);
        edges.sentence(18, "Of several the first in this order, whatever the order at a call");
        edges.at("row: BAD ahead of NONE");
        edges.due("row(0, 2, 50)", new TalkBus().row(0, 2, 50), BAD);
        edges.due("row(6, 0, 50)", new TalkBus().row(6, 0, 50), BAD);
        edges.due("row(0, 1, 50)", new TalkBus().row(0, 1, 50), NONE);
        edges.sentence(21, "Of several the first in this order, whatever the order at a call");
        edges.at("log: BAD ahead of NONE");
        edges.due("log(0, 3)", new TalkBus().log(0, 3), BAD);
        edges.due("log(50, -1)", new TalkBus().log(50, -1), BAD);
        edges.due("log(50, 2)", new TalkBus().log(50, 2), NONE);
    }

    private void nothingChanges() {
        edges.sentence(17, "nothing changes then");
        edges.at("no look changes anything");
        TalkBus x = busy();
        for (int what = -1; what <= 18; what++) {
            x.device(1, what);
            x.row(0, 1, what);
            x.bus(what);
            x.sum(what);
            x.log(what, 1);
        }
        edges.holds("all is alike", Checks.stateOf(x).equals(Checks.stateOf(busy())));
        x.command(97);
        edges.due("bus(1): 2 was named still", x.bus(1), 7);
    }
}
