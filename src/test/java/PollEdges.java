/** Boundary cases of promises 9 to 11, and of polls, charge and what is taken back in the terms. */
final class PollEdges {
    private static final int NONE = TalkBus.NONE;

    private final Edges edges;

    PollEdges(Edges edges) {
        this.edges = edges;
    }

    void run() {
        founds();
        sentAheadOfPolling();
        sentOfOthers();
        givenIfItCanBe();
        foundAt64();
        whatWasGiven();
        behindPolls();
        linesThatAnswer();
        bitsOfLines();
        tickOfParallel();
        takenBack();
        whoWasInCharge();
        whatTakingBackLeaves();
    }

    private static TalkBus sent(int... commands) {
        TalkBus x = new TalkBus();
        Checks.send(x, commands);
        return x;
    }

    private static TalkBus sentOn(String text, int... commands) {
        TalkBus x = Checks.laid(text);
        Checks.send(x, commands);
        return x;
    }

    private static TalkBus asking(TalkBus x, int d, int status) {
        x.ask(d, status, 1);
        return x;
    }

    /** The log holds just these, as they were sent. */
    private void logged(TalkBus x, int... commands) {
        edges.due("log(-1, 0)", x.log(-1, 0), commands.length);
        for (int i = 0; i < commands.length; i++) {
            int back = commands.length - 1 - i;
            edges.due("log(" + back + ", 1)", x.log(back, 1), commands[i]);
        }
    }

    // ---- promise 9

    private void founds() {
        edges.sentence(9, "the DEVICE that was found; NONE: none.");
        edges.at("none asks");
        TalkBus x = new TalkBus();
        edges.due("poll()", x.poll(), NONE);
        edges.due("sum(4)", x.sum(4), 1);
        edges.due("sum(5)", x.sum(5), 0);
        edges.at("one device alone: no other to ask");
        x = sentOn("d2,0,31,1,0;");
        edges.due("poll()", asking(x, 0, 1).poll(), NONE);
        edges.due("sum(4)", x.sum(4), 1);
        edges.due("sum(1)", x.sum(1), 0);
        edges.at("the first other, the last");
        edges.due("poll()", asking(new TalkBus(), 1, 0).poll(), 1);
        edges.due("poll()", asking(new TalkBus(), 5, 0).poll(), 5);
        edges.at("device 0, another being in charge");
        edges.due("poll()", asking(sent(85, 9), 0, 0).poll(), 0);
        edges.at("only who is in charge asks");
        x = asking(sent(85, 9), 5, 9);
        edges.due("poll()", x.poll(), NONE);
        edges.due("device(5, 10)", x.device(5, 10), 1);
    }

    private void sentAheadOfPolling() {
        edges.sentence(9, "the one in CHARGE sends 63, 32 and its own ADDRESS (and 96 and its SECOND,"
            + " if it has one), 24;");
        edges.at("without a second, address 0 and 30");
        TalkBus x = sentOn("d2,0,31,1,0;");
        x.poll();
        logged(x, 63, 32, 24, 25, 95);
        x = sentOn("d2,30,31,1,0;");
        x.poll();
        logged(x, 63, 62, 24, 25, 95);
        edges.at("with a second, 0 and 30");
        x = sentOn("d2,7,0,1,0;");
        x.poll();
        logged(x, 63, 39, 96, 24, 25, 95);
        x = sentOn("d2,7,30,1,0;");
        x.poll();
        logged(x, 63, 39, 126, 24, 25, 95);
        edges.at("who listened does not, but the one in charge");
        x = sent(36, 41);
        x.poll();
        edges.due("bus(1)", x.bus(1), 1);
        edges.at("it is remote by that");
        edges.due("device(0, 7)", x.device(0, 7), 1);
        edges.at("by another in charge");
        x = asking(sentOn("d2,0,31,1,0;d2,5,31,1,0;", 69, 9), 0, 1);
        edges.due("poll()", x.poll(), 0);
        logged(x, 69, 9, 63, 37, 24, 64, 25, 95);
        edges.due("log(0, 2)", x.log(0, 2), 1);
        edges.due("log(6, 2)", x.log(6, 2), 0);
        edges.due("device(1, 16)", x.device(1, 16), 1);
    }

    private void sentOfOthers() {
        edges.sentence(9, "then of all other DEVICES, 0 first: 64 and the ADDRESS (and 96 and the SECOND)");
        edges.at("all six, none found");
        TalkBus x = new TalkBus();
        x.poll();
        logged(x, 63, 32, 24, 68, 71, 97, 71, 98, 73, 85, 25, 95);
        edges.due("sum(1)", x.sum(1), 5);
        edges.at("address 30, second 0 and 30");
        x = sentOn("d2,0,31,1,0;d0,30,0,1,0;d0,30,30,1,0;d0,29,31,1,0;");
        x.poll();
        logged(x, 63, 32, 24, 94, 96, 94, 126, 93, 25, 95);
        edges.at("who shares the address of the one in charge");
        x = asking(sentOn("d2,7,1,1,0;d0,7,2,1,0;"), 1, 5);
        edges.due("poll()", x.poll(), 1);
        logged(x, 63, 39, 97, 24, 71, 98, 25, 95);
        edges.due("row(0, 1, 0)", x.row(0, 1, 0), 69);
        edges.due("device(1, 16)", x.device(1, 16), 0);
        edges.at("more than the log keeps");
        x = sentOn("d2,0,1,1,0;d0,1,1,1,0;d0,2,1,1,0;d0,3,1,1,0;d0,4,1,1,0;d0,5,1,1,0;");
        x.poll();
        edges.due("sum(0)", x.sum(0), 16);
        edges.due("log(15, 1)", x.log(15, 1), 63);
        x.poll();
        edges.due("sum(0)", x.sum(0), 32);
        edges.due("log(15, 0)", x.log(15, 0), 16 + 5 * 3);
    }

    private void givenIfItCanBe() {
        edges.sentence(9, "a BYTE is GIVEN, if it can be;");
        edges.at("IN of the one in charge is full: all are asked, none found, and they ask on");
        TalkBus x = asking(full(12), 1, 1);
        int now = x.bus(4);
        edges.due("poll()", x.poll(), NONE);
        edges.due("bus(4)", x.bus(4), now + 12 * 5);
        edges.due("device(1, 10)", x.device(1, 10), 1);
        edges.due("device(0, 16)", x.device(0, 16), 12);
        edges.due("sum(4)", x.sum(4), 1);
        edges.at("room for one: the first other is found, the second is not");
        x = asking(full(11), 1, 1);
        edges.due("poll()", x.poll(), 1);
        x = asking(full(11), 2, 1);
        edges.due("poll()", x.poll(), NONE);
        edges.due("device(2, 10)", x.device(2, 10), 1);
        edges.due("device(0, 16)", x.device(0, 16), 12);
        edges.at("OUT is empty: its status is given all the same");
        edges.due("poll()", asking(new TalkBus(), 3, 1).poll(), 3);
        edges.at("IN of another is full: it does not listen any more");
        x = sent(36, 85);
        for (int n = 0; n < 12; n++) {
            x.put(5, n);
            x.give();
        }
        edges.due("poll()", asking(x, 4, 1).poll(), 4);
    }

    private static TalkBus full(int bytes) {
        TalkBus x = sent(32, 85);
        for (int n = 0; n < bytes; n++) {
            x.put(5, n);
            x.give();
        }
        return x;
    }

    private void foundAt64() {
        edges.sentence(9, "when it was 64 or more, that DEVICE was found, and no more are asked;");
        edges.at("63: not found");
        TalkBus x = new TalkBus();
        x.ask(1, 63, 0);
        edges.due("poll()", x.poll(), NONE);
        edges.due("row(0, 1, 0)", x.row(0, 1, 0), 63);
        edges.at("64: found");
        x = asking(new TalkBus(), 1, 0);
        edges.due("poll()", x.poll(), 1);
        edges.due("row(0, 1, 0)", x.row(0, 1, 0), 64);
        edges.at("no more are asked");
        x = asking(asking(new TalkBus(), 1, 0), 4, 0);
        edges.due("poll()", x.poll(), 1);
        logged(x, 63, 32, 24, 68, 25, 95);
        edges.due("device(4, 10)", x.device(4, 10), 1);
        edges.due("sum(1)", x.sum(1), 1);
        edges.at("the next poll finds the next, one more none");
        edges.due("poll()", x.poll(), 4);
        edges.due("poll()", x.poll(), NONE);
        edges.due("sum(4)", x.sum(4), 3);
        edges.due("sum(5)", x.sum(5), 2);
        edges.at("a reading in the ticks of its byte");
        x = sentOn("d2,0,31,1,0;d1,4,31,1,7;", 36, 8);
        edges.due("poll()", x.poll(), 1);
        edges.due("row(0, 1, 0)", x.row(0, 1, 0), 80);
        edges.at("a reading one tick behind its byte");
        x = sentOn("d2,0,31,1,0;d1,4,31,1,8;", 36, 8);
        edges.due("poll()", x.poll(), NONE);
        edges.due("row(0, 1, 0)", x.row(0, 1, 0), 0);
        edges.due("device(1, 10)", x.device(1, 10), 1);
    }

    private void whatWasGiven() {
        edges.sentence(9, "(What was GIVEN is in IN of the one in CHARGE, as by any BYTE.)");
        edges.at("behind what was there, those of all that were asked");
        TalkBus x = full(2);
        x.ask(1, 11, 0);
        x.ask(2, 12, 1);
        edges.due("poll()", x.poll(), 2);
        int[] in = {0, 1, 11, 76};
        edges.due("device(0, 16)", x.device(0, 16), 4);
        for (int i = 0; i < in.length; i++) {
            edges.due("row(0, 1, " + i + ")", x.row(0, 1, i), in[i]);
        }
        edges.due("sum(1)", x.sum(1), 4);
        edges.due("sum(2)", x.sum(2), 4);
        edges.at("ticks of commands and bytes");
        x = sentOn("d2,0,31,4,0;d0,1,31,1,0;d0,2,31,9,0;");
        x.poll();
        edges.due("bus(4)", x.bus(4), 7 * 9 + 2 * 6);
    }

    private void behindPolls() {
        edges.sentence(9, "then 25, 95.");
        edges.at("found and not found: polling is off, nobody talks");
        for (int asks = 0; asks <= 1; asks++) {
            TalkBus x = sent(68);
            x.ask(4, 1, asks);
            x.poll();
            edges.due("bus(3)", x.bus(3), 0);
            edges.due("bus(0)", x.bus(0), NONE);
            edges.due("log(0, 1)", x.log(0, 1), 95);
            edges.due("log(1, 1)", x.log(1, 1), 25);
        }
        edges.at("polling was on ahead of it");
        TalkBus x = sent(24);
        x.poll();
        edges.due("bus(3)", x.bus(3), 0);
    }

    // ---- promise 10

    private static TalkBus lined(int c, int asks) {
        TalkBus x = sent(36, 5, c);
        x.ask(1, 0, asks);
        return x;
    }

    private void linesThatAnswer() {
        edges.sentence(10, "bits of all LINES that some DEVICE has with a SENSE that is 1 and it ASKS,"
            + " or 0 and it does not;");
        edges.at("no lines");
        edges.due("parallel()", new TalkBus().parallel(), 0);
        edges.due("parallel()", asking(new TalkBus(), 1, 0).parallel(), 0);
        edges.at("line 0");
        edges.due("parallel()", lined(96, 0).parallel(), 1);
        edges.due("parallel()", lined(96, 1).parallel(), 0);
        edges.due("parallel()", lined(104, 0).parallel(), 0);
        edges.due("parallel()", lined(104, 1).parallel(), 1);
        edges.at("line 7");
        edges.due("parallel()", lined(103, 0).parallel(), 128);
        edges.due("parallel()", lined(103, 1).parallel(), 0);
        edges.due("parallel()", lined(111, 0).parallel(), 0);
        edges.due("parallel()", lined(111, 1).parallel(), 128);
        edges.at("a status without asking");
        TalkBus x = sent(36, 5, 104);
        x.ask(1, 63, 0);
        edges.due("parallel()", x.parallel(), 0);
        edges.at("two of one line: one bit, if some device answers");
        x = sent(36, 41, 5, 107);
        edges.due("parallel()", x.parallel(), 0);
        edges.due("parallel()", asking(x, 4, 0).parallel(), 8);
        edges.due("parallel()", asking(x, 1, 0).parallel(), 8);
        edges.at("two of one line with unlike senses");
        x = sent(36, 5, 98, 63, 41, 5, 106);
        edges.due("parallel()", x.parallel(), 4);
        x.ask(1, 0, 1);
        edges.due("parallel()", x.parallel(), 0);
        edges.at("all eight lines can not be, but six");
        x = sentOn("d2,0,31,1,0;d0,1,31,1,0;d0,2,31,1,0;d0,3,31,1,0;d0,4,31,1,0;d0,5,31,1,0;");
        for (int d = 0; d < 6; d++) {
            Checks.send(x, 63, 32 + d, 5, 96 + d);
        }
        edges.due("parallel()", x.parallel(), 63);
        edges.at("it asks on");
        x = lined(104, 1);
        x.parallel();
        edges.due("device(1, 10)", x.device(1, 10), 1);
        edges.due("parallel()", x.parallel(), 1);
    }

    private void bitsOfLines() {
        edges.sentence(10, "POLLED at once: bits of LINES.");
        edges.at("each line has its own bit: 1 to 128");
        for (int line = 0; line < 8; line++) {
            edges.due("parallel() of line " + line, lined(96 + line, 0).parallel(), 1 << line);
            edges.due("parallel() of line " + line, lined(104 + line, 1).parallel(), 1 << line);
        }
        edges.at("lines 0 and 7");
        edges.due("parallel()", sent(36, 5, 96, 63, 41, 5, 103).parallel(), 129);
    }

    private void tickOfParallel() {
        edges.sentence(10, "it takes 1 TICK ahead of that.");
        edges.at("one, whatever the paces; no command, no poll one by one");
        TalkBus x = new TalkBus();
        x.parallel();
        edges.due("bus(4)", x.bus(4), 1);
        edges.due("sum(0)", x.sum(0), 0);
        edges.due("sum(4)", x.sum(4), 0);
        edges.due("log(-1, 0)", x.log(-1, 0), 0);
        edges.at("a reading in that tick");
        edges.due("parallel()", sentOn("d2,0,31,1,0;d1,4,31,1,1;", 36, 5, 104, 8).parallel(), 1);
        edges.due("parallel()", sentOn("d2,0,31,1,0;d1,4,31,1,1;", 36, 5, 96, 8).parallel(), 0);
        edges.at("a reading one tick behind");
        edges.due("parallel()", sentOn("d2,0,31,1,0;d1,4,31,1,2;", 36, 5, 104, 8).parallel(), 0);
        edges.at("names and who is prepared stay");
        x = sent(39);
        x.parallel();
        edges.due("device(2, 17)", x.device(2, 17), 1);
        x = sent(36, 5);
        x.parallel();
        x.command(99);
        edges.due("device(1, 11)", x.device(1, 11), 3);
    }

    // ---- promise 11

    private void takenBack() {
        edges.sentence(11, "nobody TALKS, LISTENS, is NAMED, PREPARED; POLLING is off;"
            + " DEVICE 0 is in CHARGE (no TICKS, no COMMAND).");
        edges.at("who talks, listens, polling, charge");
        TalkBus x = sent(85, 9, 36, 53, 24, 68);
        int now = x.bus(4);
        x.takeBack();
        int[] bus = {NONE, 0, 0, 0, now};
        for (int what = 0; what < bus.length; what++) {
            edges.due("bus(" + what + ")", x.bus(what), bus[what]);
        }
        edges.at("no command: neither counted nor in the log");
        edges.due("sum(0)", x.sum(0), 6);
        edges.due("log(0, 1)", x.log(0, 1), 68);
        edges.at("named to listen, to talk");
        x = sent(39);
        x.takeBack();
        edges.due("device(2, 17)", x.device(2, 17), 0);
        x.command(97);
        edges.due("bus(1)", x.bus(1), 0);
        x = sent(71);
        x.takeBack();
        x.command(97);
        edges.due("bus(0)", x.bus(0), NONE);
        edges.at("prepared");
        x = sent(36, 5);
        x.takeBack();
        x.command(99);
        edges.due("device(1, 11)", x.device(1, 11), NONE);
        edges.at("nothing to take back");
        edges.refused("takeBack()", TalkBus::new, TalkBus::takeBack, 0);
        edges.at("the next command is sent by 0");
        x = sent(85, 9);
        x.takeBack();
        x.command(0);
        edges.due("log(0, 2)", x.log(0, 2), 0);
    }

    private void whoWasInCharge() {
        edges.sentence(11, "TAKEN BACK: who was in CHARGE.");
        edges.at("0");
        edges.due("takeBack()", new TalkBus().takeBack(), 0);
        edges.at("the last");
        TalkBus x = sent(85, 9);
        edges.due("takeBack()", x.takeBack(), 5);
        edges.at("twice");
        edges.due("takeBack()", x.takeBack(), 0);
    }

    private void whatTakingBackLeaves() {
        edges.sentence(11, "TAKEN BACK: nobody TALKS, LISTENS, is NAMED, PREPARED");
        edges.at("all else stays");
        TalkBus x = sent(36, 17, 5, 99, 85, 9, 24, 68);
        x.tune(1, 1, 60);
        x.put(1, 5);
        x.ask(1, 9, 1);
        x.command(8);
        x.takeBack();
        int[] device = {1, 4, 31, 2, 60, 0, 0, 1, 1, 9, 1, 3, 0, 1, 60, 1, 0, 0};
        for (int what = 0; what < device.length; what++) {
            edges.due("device(1, " + what + ")", x.device(1, what), device[what]);
        }
        int[] sums = {9, 0, 0, 0, 0, 0, 1, 1};
        for (int what = 0; what < sums.length; what++) {
            edges.due("sum(" + what + ")", x.sum(what), sums[what]);
        }
        x.tick(60);
        edges.due("sum(3)", x.sum(3), 1);
    }
}
