/** Boundary cases of promise 6, and of the commands in the terms. */
final class CommandEdges {
    private static final int BAD = TalkBus.BAD, NONE = TalkBus.NONE;
    private static final int[] MEANT_FOR_NOTHING = {0, 2, 3, 6, 7, 10, 11, 12, 13, 14, 15, 16, 18, 19,
        22, 23, 26, 27, 28, 29, 30, 31};

    private final Edges edges;

    CommandEdges(Edges edges) {
        this.edges = edges;
    }

    void run() {
        bytesOfCommands();
        ticksOfCommands();
        readingsComeFirst();
        prepared();
        preparedForTheNext();
        named();
        notRemote();
        clearedListeners();
        clearedAll();
        triggered();
        readingIsDue();
        chargePassed();
        locked();
        withoutLines();
        pollingOnAndOff();
        listenersByAddress();
        nobodyListens();
        talkersByAddress();
        nobodyTalks();
        linesBySecond();
        secondsOfNamed();
        allOthers();
        nothingBesides();
    }

    private static TalkBus sent(int... commands) {
        TalkBus x = new TalkBus();
        Checks.send(x, commands);
        return x;
    }

    private static TalkBus sentOn(String text, int... commands) {
        TalkBus x = Checks.laid(text);
        Checks.send(x, commands);
        return x;
    }

    /** Device 1 has all that can be cleared, and much that can not; it listens. */
    private static TalkBus filled() {
        TalkBus x = sent(36, 17, 5, 99, 85);
        x.tune(1, 1, 60);
        for (int n = 0; n < 12; n++) {
            x.put(5, n);
            x.give();
        }
        x.command(8);
        for (int d = 0; d < 6; d++) {
            x.ask(d, 10 + d, 1);
            x.put(d, 100 + d);
        }
        return x;
    }

    private void cleared(TalkBus x, int d) {
        for (int what : new int[] {9, 10, 15, 16}) {
            edges.due("device(" + d + ", " + what + ")", x.device(d, what), 0);
        }
        edges.due("device(" + d + ", 14)", x.device(d, 14), NONE);
    }

    private void notCleared(TalkBus x, int d) {
        edges.due("device(" + d + ", 9)", x.device(d, 9), 10 + d);
        edges.due("device(" + d + ", 10)", x.device(d, 10), 1);
        edges.due("device(" + d + ", 15)", x.device(d, 15), 1);
    }

    private void bytesOfCommands() {
        edges.sentence(6, "A COMMAND (0 to 127): NOW behind it. BAD.");
        edges.at("0, the least");
        edges.due("command(0)", new TalkBus().command(0), 5);
        edges.at("127, the greatest");
        edges.due("command(127)", new TalkBus().command(127), 5);
        edges.at("-1, too small");
        edges.refused("command(-1)", () -> sent(36, 39), x -> x.command(-1), BAD);
        edges.at("128, too large");
        edges.refused("command(128)", () -> sent(36, 39), x -> x.command(128), BAD);
        edges.at("the ends of int, and numbers whose low bits are a command");
        for (int c : new int[] {Integer.MIN_VALUE, Integer.MAX_VALUE, 256 + 36, 128 + 36, 36 - 128}) {
            edges.refused("command(" + c + ")", () -> sent(36, 39), x -> x.command(c), BAD);
        }
        edges.at("a refused one between 5 and a line, a name and a second");
        edges.refused("command(128)", () -> sent(36, 5), x -> x.command(128), BAD);
        TalkBus x = sent(39);
        x.command(-1);
        x.command(97);
        edges.due("bus(1)", x.bus(1), 4);
    }

    private void ticksOfCommands() {
        edges.sentence(6, "it takes as many TICKS as the greatest PACE of all DEVICES, ahead of what it does");
        edges.at("the least pace");
        edges.due("command(0)", sentOn("d2,0,31,1,0;").command(0), 1);
        edges.at("the greatest pace, of the first, of the last device");
        edges.due("command(0)", sentOn("d2,0,31,9,0;d0,1,31,1,0;").command(0), 9);
        edges.due("command(0)", sentOn("d2,0,31,1,0;d0,1,31,9,0;").command(0), 9);
        edges.at("a pace of several: the greatest, not the sum");
        edges.due("command(0)", sentOn("d2,0,31,3,0;d0,1,31,4,0;d0,2,31,4,0;").command(0), 4);
        edges.at("of those that are not meant, too");
        edges.due("command(33)", sentOn("d2,0,31,1,0;d0,1,31,2,0;d0,2,31,7,0;").command(33), 7);
        edges.at("a pace told anew");
        TalkBus x = sentOn("d2,0,31,1,0;d0,1,31,2,0;");
        x.tune(0, 0, 6);
        edges.due("command(0)", x.command(0), 6);
        x.tune(0, 0, 1);
        edges.due("command(0)", x.command(0), 8);
        edges.at("devices of before are not counted");
        TalkBus y = new TalkBus();
        Checks.tell(y, "d2,0,31,2,0;");
        y.lay();
        edges.due("command(0)", y.command(0), 2);
        edges.at("a trigger is behind them");
        edges.due("device(1, 14)", sentOn("d2,0,31,4,0;d1,1,31,1,7;", 33, 8).device(1, 14), 7);
    }

    /** Behind its trigger at tick 6 a meter's reading is due in so many ticks; commands take 3. */
    private static TalkBus dueIn(int delay) {
        return sentOn("d2,0,31,3,0;d1,4,31,3," + delay + ";", 36, 8);
    }

    private void readingsComeFirst() {
        edges.sentence(6, "(READINGS that are due then come first)");
        for (int c : new int[] {4, 20}) {
            edges.at("due in the last tick of a clearing " + c + ": it came, and is cleared");
            TalkBus x = dueIn(3);
            x.command(c);
            edges.due("sum(3)", x.sum(3), 1);
            cleared(x, 1);
            edges.at("due one tick behind a clearing " + c + ": it never comes");
            x = dueIn(4);
            x.command(c);
            cleared(x, 1);
            x.tick(100);
            edges.due("sum(3)", x.sum(3), 0);
        }
        edges.at("due in the last tick of a trigger: it is of the triggers before");
        TalkBus x = dueIn(3);
        x.command(8);
        edges.due("sum(3)", x.sum(3), 1);
        edges.due("row(1, 0, 0)", x.row(1, 0, 0), '1');
        edges.due("row(1, 0, 1)", x.row(1, 0, 1), '9');
        edges.due("device(1, 14)", x.device(1, 14), 3);
        edges.at("due in any command's ticks: 3, not 4");
        x = dueIn(3);
        x.command(0);
        edges.due("device(1, 15)", x.device(1, 15), 2);
        x = dueIn(4);
        x.command(0);
        edges.due("device(1, 15)", x.device(1, 15), 0);
        edges.due("device(1, 14)", x.device(1, 14), 1);
    }

    private void prepared() {
        edges.sentence(6, "PREPARED are DEVICES that LISTENED when a 5 was sent just ahead");
        edges.at("who listened, and who did not");
        TalkBus x = sent(36, 5, 99);
        edges.due("device(1, 11)", x.device(1, 11), 3);
        edges.due("device(4, 11)", x.device(4, 11), NONE);
        edges.at("who only talked");
        edges.due("device(1, 11)", sent(68, 5, 99).device(1, 11), NONE);
        edges.at("who listened no more");
        edges.due("device(1, 11)", sent(36, 63, 5, 99).device(1, 11), NONE);
        edges.at("nobody listened");
        edges.due("device(0, 11)", sent(5, 99).device(0, 11), NONE);
        edges.sentence(6, "(the COMMAND ahead of this one was a 5; TICKS, BYTES between do not matter)");
        edges.at("ticks between");
        x = sent(36, 5);
        x.tick(500);
        x.parallel();
        x.command(99);
        edges.due("device(1, 11)", x.device(1, 11), 3);
        edges.at("bytes between");
        x = sent(36, 64, 5);
        x.put(0, 7);
        edges.due("give()", x.give(), 7);
        x.give();
        x.command(99);
        edges.due("device(1, 11)", x.device(1, 11), 3);
        edges.at("a command between, though it does nothing");
        edges.due("device(1, 11)", sent(36, 5, 0, 99).device(1, 11), NONE);
        edges.at("a second line behind one 5");
        edges.due("device(1, 11)", sent(36, 5, 99, 100).device(1, 11), 3);
        edges.at("5 twice");
        edges.due("device(1, 11)", sent(36, 5, 5, 99).device(1, 11), 3);
        edges.at("a listener between");
        edges.due("device(1, 11)", sent(5, 36, 99).device(1, 11), NONE);
        edges.at("no command ahead at all");
        edges.due("device(0, 11)", sent(99).device(0, 11), NONE);
        edges.at("a poll between");
        x = sent(36, 5);
        x.poll();
        x.command(99);
        edges.due("device(1, 11)", x.device(1, 11), NONE);
    }

    private void preparedForTheNext() {
        edges.sentence(6, "nothing but that who LISTENS is PREPARED for the next one.");
        edges.at("nobody listens");
        edges.due("parallel()", sent(5, 96).parallel(), 0);
        edges.at("all listen");
        TalkBus x = sent(32, 36, 39, 97, 39, 98, 41, 53, 5, 100);
        for (int d = 0; d < 6; d++) {
            edges.due("device(" + d + ", 11)", x.device(d, 11), 4);
        }
        edges.at("a line of before stays till the next one, and by one that is none");
        x = sent(36, 5, 99, 5);
        edges.due("device(1, 11)", x.device(1, 11), 3);
        x.command(95);
        edges.due("device(1, 11)", x.device(1, 11), 3);
        edges.at("the next one, but not that behind it");
        edges.due("device(1, 11)", sent(36, 5, 96, 112).device(1, 11), 0);
    }

    private void named() {
        edges.sentence(6, "NAMED are DEVICES just till the next COMMAND");
        edges.at("ticks, bytes, looks between");
        TalkBus x = sent(32, 68, 39);
        x.put(1, 3);
        x.give();
        x.tick(500);
        x.parallel();
        edges.due("device(2, 17)", x.device(2, 17), 1);
        x.command(97);
        edges.due("device(2, 6)", x.device(2, 6), 1);
        edges.at("a command between, though it does nothing");
        x = sent(39, 0);
        edges.due("device(2, 17)", x.device(2, 17), 0);
        x.command(97);
        edges.due("device(2, 6)", x.device(2, 6), 0);
        edges.at("a 5 between");
        x = sent(39, 5, 97);
        edges.due("device(2, 6)", x.device(2, 6), 0);
        edges.due("device(2, 11)", x.device(2, 11), NONE);
        edges.sentence(6, "(that is, its ADDRESS was told, and its SECOND is awaited)");
        edges.at("all of that address that have a second, none of another");
        x = sent(39);
        int[] names = {0, 0, 1, 1, 0, 0};
        for (int d = 0; d < 6; d++) {
            edges.due("device(" + d + ", 17)", x.device(d, 17), names[d]);
        }
        edges.sentence(6, "then none is but those that it names itself");
        edges.at("named to talk in place of to listen, and back");
        x = sent(39, 71);
        edges.due("device(2, 17)", x.device(2, 17), 2);
        edges.due("device(3, 17)", x.device(3, 17), 2);
        x.command(39);
        edges.due("device(2, 17)", x.device(2, 17), 1);
        edges.at("another address names none of these");
        x = sentOn("d2,0,31,1,0;d0,7,1,1,0;d0,8,1,1,0;", 39, 40);
        edges.due("device(1, 17)", x.device(1, 17), 0);
        edges.due("device(2, 17)", x.device(2, 17), 1);
        x.command(97);
        edges.due("bus(1)", x.bus(1), 4);
        edges.at("a second ends the names of those that it does not mean");
        x = sent(39, 97);
        edges.due("device(3, 17)", x.device(3, 17), 0);
        x.command(98);
        edges.due("device(3, 6)", x.device(3, 6), 0);
    }

    private void notRemote() {
        edges.sentence(6, "who LISTENS is not REMOTE any more.");
        edges.at("who listens");
        TalkBus x = sent(36, 1);
        edges.due("device(1, 7)", x.device(1, 7), 0);
        edges.due("device(1, 6)", x.device(1, 6), 1);
        edges.at("who listened once");
        edges.due("device(1, 7)", sent(36, 63, 1).device(1, 7), 1);
        edges.at("who is locked");
        x = sent(36, 17, 1);
        edges.due("device(1, 7)", x.device(1, 7), 0);
        edges.due("device(1, 8)", x.device(1, 8), 1);
        edges.at("told to listen again: remote again");
        edges.due("device(1, 7)", sent(36, 1, 36).device(1, 7), 1);
    }

    private void clearedListeners() {
        edges.sentence(6, "who LISTENS is CLEARED: OUT, IN empty, STATUS 0, it does not ASK, no READING is due.");
        edges.at("rows that are full");
        TalkBus x = filled();
        for (int n = 0; n < 12; n++) {
            x.put(1, n);
        }
        edges.due("device(1, 15)", x.device(1, 15), 12);
        edges.due("device(1, 16)", x.device(1, 16), 12);
        edges.due("device(1, 14)", x.device(1, 14), 60);
        x.command(4);
        cleared(x, 1);
        edges.due("put(1, 9)", x.put(1, 9), 1);
        edges.due("row(1, 0, 0)", x.row(1, 0, 0), 9);
        edges.due("row(1, 1, 0)", x.row(1, 1, 0), NONE);
        edges.at("what is not cleared");
        x = filled();
        x.command(4);
        int[] stays = {1, 4, 31, 2, 60, 0, 1, 1, 1};
        for (int what = 0; what < stays.length; what++) {
            edges.due("device(1, " + what + ")", x.device(1, what), stays[what]);
        }
        edges.due("device(1, 11)", x.device(1, 11), 3);
        edges.due("device(1, 12)", x.device(1, 12), 0);
        edges.due("device(1, 13)", x.device(1, 13), 1);
        edges.at("who does not listen");
        for (int d = 0; d < 6; d++) {
            if (d != 1) {
                notCleared(x, d);
            }
        }
        edges.at("nobody listens");
        x = filled();
        Checks.send(x, 63, 4);
        notCleared(x, 1);
        edges.due("device(1, 16)", x.device(1, 16), 12);
        edges.at("a reading does not come behind it");
        x = filled();
        x.command(4);
        x.tick(100);
        edges.due("sum(3)", x.sum(3), 0);
    }

    private void clearedAll() {
        edges.sentence(6, "20: all DEVICES are.");
        edges.at("the first, the last, who listens and who does not");
        TalkBus x = filled();
        x.command(20);
        for (int d = 0; d < 6; d++) {
            cleared(x, d);
        }
        edges.at("nobody listens");
        x = filled();
        Checks.send(x, 63, 20);
        for (int d = 0; d < 6; d++) {
            cleared(x, d);
        }
        edges.at("who talks, listens stays so");
        x = filled();
        x.command(20);
        edges.due("bus(0)", x.bus(0), 5);
        edges.due("bus(1)", x.bus(1), 2);
    }

    private void triggered() {
        edges.sentence(6, "who LISTENS is TRIGGERED: TRIGGERS is 1 more (999 at most)");
        edges.at("of each kind");
        TalkBus x = sent(32, 36, 39, 97, 8);
        int[] triggers = {1, 1, 1, 0, 0, 0};
        for (int d = 0; d < 6; d++) {
            edges.due("device(" + d + ", 13)", x.device(d, 13), triggers[d]);
        }
        edges.due("sum(7)", x.sum(7), 3);
        edges.at("nobody listens");
        x = sent(36, 63, 8);
        edges.due("device(1, 13)", x.device(1, 13), 0);
        edges.due("sum(7)", x.sum(7), 0);
        edges.at("who is named to listen only");
        edges.due("device(2, 13)", sent(39, 8).device(2, 13), 0);
        edges.at("twice");
        edges.due("device(1, 13)", sent(36, 8, 8).device(1, 13), 2);
        edges.at("as often as calls allow");
        x = sentOn("d2,0,31,1,0;", 32);
        for (int n = 0; n < 480; n++) {
            x.command(8);
        }
        edges.due("device(0, 13)", x.device(0, 13), 480);
        edges.at("999 (which 512 calls can not reach)");
        x = sentOn("d2,0,31,1,0;d1,1,31,1,0;", 33);
        for (int n = 0; n < 998; n++) {
            x.command(8);
        }
        edges.due("device(1, 13)", x.device(1, 13), 998);
        x.command(8);
        edges.due("device(1, 13)", x.device(1, 13), 999);
        x.command(8);
        edges.due("device(1, 13)", x.device(1, 13), 999);
        edges.due("sum(7)", x.sum(7), 1000);
    }

    private void readingIsDue() {
        edges.sentence(6, "a METER's READING is due DELAY TICKS from NOW (in place of one that was;"
            + " by DELAY 0 it comes at once)");
        edges.at("delay 60, the greatest");
        edges.due("device(1, 14)", sentOn("d2,0,31,1,0;d1,1,31,1,60;", 33, 8).device(1, 14), 60);
        edges.at("delay 1");
        TalkBus x = sentOn("d2,0,31,1,0;d1,1,31,1,1;", 33, 8);
        edges.due("device(1, 14)", x.device(1, 14), 1);
        edges.due("sum(3)", x.sum(3), 0);
        edges.at("delay 0: at once");
        x = sentOn("d2,0,31,1,0;d1,1,31,1,0;", 33, 8);
        edges.due("device(1, 14)", x.device(1, 14), NONE);
        edges.due("device(1, 15)", x.device(1, 15), 2);
        edges.due("device(1, 10)", x.device(1, 10), 1);
        edges.due("sum(3)", x.sum(3), 1);
        edges.at("in place of one that was");
        x = sentOn("d2,0,31,1,0;d1,1,31,1,20;", 33, 8);
        x.tick(9);
        edges.due("device(1, 14)", x.device(1, 14), 11);
        x.command(8);
        edges.due("device(1, 14)", x.device(1, 14), 20);
        x.tick(20);
        edges.due("sum(3)", x.sum(3), 1);
        edges.at("by delay 0 in place of one that was");
        x = sentOn("d2,0,31,1,0;d1,1,31,1,20;", 33, 8);
        x.tune(1, 1, 0);
        x.command(8);
        edges.due("sum(3)", x.sum(3), 1);
        edges.due("device(1, 14)", x.device(1, 14), NONE);
        x.tick(100);
        edges.due("sum(3)", x.sum(3), 1);
        edges.sentence(6, "of METERS alone it matters");
        edges.at("plain, a host, with a delay of 5 and of 0");
        x = sentOn("d2,0,31,1,5;d0,1,31,1,5;d0,2,31,1,0;", 32, 33, 34, 8);
        for (int d = 0; d < 3; d++) {
            edges.due("device(" + d + ", 13)", x.device(d, 13), 1);
            edges.due("device(" + d + ", 14)", x.device(d, 14), NONE);
        }
        x.tick(100);
        edges.due("sum(3)", x.sum(3), 0);
        edges.due("device(2, 15)", x.device(2, 15), 0);
    }

    private void chargePassed() {
        edges.sentence(6, "if one TALKS that is a HOST and not in CHARGE, it is in CHARGE;"
            + " it does not TALK any more.");
        edges.at("nobody talks");
        TalkBus x = sent(9);
        edges.due("bus(2)", x.bus(2), 0);
        edges.due("sum(6)", x.sum(6), 0);
        edges.at("a meter talks, a plain one talks");
        x = sent(68, 9);
        edges.due("bus(2)", x.bus(2), 0);
        edges.due("bus(0)", x.bus(0), 1);
        x = sent(71, 97, 9);
        edges.due("bus(2)", x.bus(2), 0);
        edges.due("bus(0)", x.bus(0), 2);
        edges.at("who is in charge talks: it talks on");
        x = sent(64, 9);
        edges.due("bus(2)", x.bus(2), 0);
        edges.due("bus(0)", x.bus(0), 0);
        edges.due("sum(6)", x.sum(6), 0);
        edges.at("another host talks");
        x = sent(85, 9);
        edges.due("bus(2)", x.bus(2), 5);
        edges.due("bus(0)", x.bus(0), NONE);
        edges.due("sum(6)", x.sum(6), 1);
        edges.at("twice: nobody talks any more");
        x.command(9);
        edges.due("bus(2)", x.bus(2), 5);
        edges.due("sum(6)", x.sum(6), 1);
        edges.at("and back to 0");
        Checks.send(x, 64, 9);
        edges.due("bus(2)", x.bus(2), 0);
        edges.due("bus(0)", x.bus(0), NONE);
        edges.at("a host that is named to talk only");
        x = sentOn("d2,0,31,1,0;d2,5,3,1,0;", 69, 9);
        edges.due("bus(2)", x.bus(2), 0);
        edges.at("a host that listens, too: it listens on");
        edges.due("bus(1)", sent(53, 85, 9).bus(1), 32);
    }

    private void locked() {
        edges.sentence(6, "all DEVICES are LOCKED.");
        edges.at("the first, the last, who listens and who does not");
        TalkBus x = sent(36, 17);
        for (int d = 0; d < 6; d++) {
            edges.due("device(" + d + ", 8)", x.device(d, 8), 1);
            edges.due("device(" + d + ", 7)", x.device(d, 7), d == 1 ? 1 : 0);
        }
        edges.at("no command ends it");
        for (int c = 0; c < 128; c++) {
            x.command(c);
        }
        edges.due("device(0, 8)", x.device(0, 8), 1);
        edges.due("device(5, 8)", x.device(5, 8), 1);
    }

    private void withoutLines() {
        edges.sentence(6, "no DEVICE has a LINE any more.");
        edges.at("who listens, who does not, who had none");
        TalkBus x = sent(36, 5, 99, 63, 41, 5, 106, 21);
        for (int d = 0; d < 6; d++) {
            edges.due("device(" + d + ", 11)", x.device(d, 11), NONE);
            edges.due("device(" + d + ", 12)", x.device(d, 12), NONE);
        }
        edges.due("parallel()", x.parallel(), 0);
        edges.at("between 5 and a line: a command between");
        edges.due("device(1, 11)", sent(36, 5, 21, 99).device(1, 11), NONE);
    }

    private void pollingOnAndOff() {
        edges.sentence(6, "POLLING is on. 25: it is off.");
        edges.at("on twice");
        edges.due("bus(3)", sent(24).bus(3), 1);
        edges.due("bus(3)", sent(24, 24).bus(3), 1);
        edges.at("off, and off when it was off");
        edges.due("bus(3)", sent(24, 24, 25).bus(3), 0);
        edges.due("bus(3)", sent(25).bus(3), 0);
    }

    private void listenersByAddress() {
        String ends = "d2,0,31,1,0;d0,30,31,1,0;";
        edges.sentence(6, "32 and A: each DEVICE of ADDRESS A: without a SECOND it LISTENS and is REMOTE;"
            + " with one it is NAMED to listen.");
        edges.at("32, address 0");
        edges.due("bus(1)", sentOn(ends, 32).bus(1), 1);
        edges.due("device(0, 7)", sentOn(ends, 32).device(0, 7), 1);
        edges.at("62, address 30");
        edges.due("bus(1)", sentOn(ends, 62).bus(1), 2);
        edges.due("device(1, 7)", sentOn(ends, 62).device(1, 7), 1);
        edges.at("31, just below");
        edges.due("bus(1)", sentOn(ends, 31).bus(1), 0);
        edges.at("63, just above");
        edges.due("bus(1)", sentOn(ends, 63).bus(1), 0);
        edges.at("an address that none has");
        TalkBus x = sent(36, 33);
        edges.due("bus(1)", x.bus(1), 2);
        edges.at("who listened goes on");
        edges.due("bus(1)", sent(36, 41, 53).bus(1), 2 + 16 + 32);
        edges.at("again");
        edges.due("bus(1)", sent(36, 36).bus(1), 2);
        edges.at("with a second: named, not yet a listener");
        x = sent(39);
        edges.due("device(2, 17)", x.device(2, 17), 1);
        edges.due("device(3, 17)", x.device(3, 17), 1);
        edges.due("bus(1)", x.bus(1), 0);
        edges.due("device(2, 7)", x.device(2, 7), 0);
        edges.at("with a second, a listener already: it listens on");
        x = sent(39, 97, 39);
        edges.due("bus(1)", x.bus(1), 4);
        edges.due("device(2, 17)", x.device(2, 17), 1);
        edges.at("who talks talks on, and listens, too");
        x = sent(68, 36);
        edges.due("bus(0)", x.bus(0), 1);
        edges.due("bus(1)", x.bus(1), 2);
    }

    private void nobodyListens() {
        edges.sentence(6, "nobody LISTENS.");
        edges.at("two listened");
        TalkBus x = sent(32, 53, 63);
        edges.due("bus(1)", x.bus(1), 0);
        edges.at("they are remote still, who talks talks on");
        edges.due("device(5, 7)", x.device(5, 7), 1);
        edges.due("bus(0)", sent(68, 36, 63).bus(0), 1);
        edges.at("nobody did");
        edges.due("bus(1)", sent(63).bus(1), 0);
    }

    private void talkersByAddress() {
        String ends = "d2,0,31,1,0;d0,30,31,1,0;";
        edges.sentence(6, "64 and A: who TALKS does not any more, but a DEVICE of ADDRESS A without a SECOND"
            + " TALKS; one with a SECOND is NAMED to talk.");
        edges.at("64, address 0");
        edges.due("bus(0)", sentOn(ends, 64).bus(0), 0);
        edges.at("94, address 30");
        edges.due("bus(0)", sentOn(ends, 94).bus(0), 1);
        edges.at("95, just above");
        edges.due("bus(0)", sentOn(ends, 95).bus(0), NONE);
        edges.at("an address that none has: nobody talks");
        edges.due("bus(0)", sent(68, 65).bus(0), NONE);
        edges.at("another one");
        TalkBus x = sent(68, 73);
        edges.due("bus(0)", x.bus(0), 4);
        edges.due("device(1, 5)", x.device(1, 5), 0);
        edges.at("the same one: it talks on");
        edges.due("bus(0)", sent(68, 68).bus(0), 1);
        edges.at("with a second: named, nobody talks yet");
        x = sent(68, 71);
        edges.due("bus(0)", x.bus(0), NONE);
        edges.due("device(2, 17)", x.device(2, 17), 2);
        edges.due("device(3, 17)", x.device(3, 17), 2);
        edges.at("with a second, it talked: it does not any more");
        edges.due("bus(0)", sent(71, 97, 71).bus(0), NONE);
        edges.at("who talks is not remote by that, listeners go on");
        x = sent(36, 73);
        edges.due("device(4, 7)", x.device(4, 7), 0);
        edges.due("bus(1)", x.bus(1), 2);
    }

    private void nobodyTalks() {
        edges.sentence(6, "nobody TALKS.");
        edges.at("one talked");
        edges.due("bus(0)", sent(68, 95).bus(0), NONE);
        edges.at("listeners go on");
        edges.due("bus(1)", sent(36, 68, 95).bus(1), 2);
        edges.at("nobody did");
        edges.due("bus(0)", sent(95).bus(0), NONE);
    }

    private void line(int c, int line, int sense) {
        TalkBus x = sent(36, 5, 101, 5, c);
        edges.due("device(1, 11) behind 5, " + c, x.device(1, 11), line);
        edges.due("device(1, 12) behind 5, " + c, x.device(1, 12), sense);
    }

    private void linesBySecond() {
        edges.sentence(6, "by 96 to 111, c less 96 being 8 SENSE and LINE: each that is PREPARED has that"
            + " LINE and SENSE; by 112 to 127 it has no LINE.");
        edges.at("96: line 0, sense 0");
        line(96, 0, 0);
        edges.at("103: line 7, sense 0");
        line(103, 7, 0);
        edges.at("104: line 0, sense 1");
        line(104, 0, 1);
        edges.at("111: line 7, sense 1");
        line(111, 7, 1);
        edges.at("112: no line");
        line(112, NONE, NONE);
        edges.at("127: no line");
        line(127, NONE, NONE);
        edges.at("95, just below: the line stays");
        line(95, 5, 0);
        edges.at("all of them");
        for (int c = 96; c <= 127; c++) {
            line(c, c < 112 ? (c - 96) % 8 : NONE, c < 112 ? (c - 96) / 8 : NONE);
        }
        edges.at("several are prepared");
        TalkBus x = sent(36, 41, 5, 107);
        edges.due("device(1, 11)", x.device(1, 11), 3);
        edges.due("device(4, 11)", x.device(4, 11), 3);
        edges.due("device(4, 12)", x.device(4, 12), 1);
        edges.at("no line when there was none");
        edges.due("device(1, 11)", sent(36, 5, 112).device(1, 11), NONE);
        edges.at("a line is kept by who is not prepared");
        edges.due("device(1, 11)", sent(36, 5, 99, 63, 41, 5, 112).device(1, 11), 3);
        edges.at("a second behind 5 makes nobody listen or talk");
        x = sent(36, 39, 5, 97);
        edges.due("bus(1)", x.bus(1), 2);
        edges.due("bus(0)", x.bus(0), NONE);
    }

    private void secondsOfNamed() {
        String ends = "d2,0,31,1,0;d0,7,0,1,0;d0,7,30,1,0;d0,8,0,1,0;";
        edges.sentence(6, "Else with S being c less 96 (127 being none: nothing): each that is NAMED to listen,"
            + " its SECOND being S, LISTENS and is REMOTE");
        edges.at("96, second 0");
        TalkBus x = sentOn(ends, 39, 96);
        edges.due("bus(1)", x.bus(1), 2);
        edges.due("device(1, 7)", x.device(1, 7), 1);
        edges.due("device(2, 7)", x.device(2, 7), 0);
        edges.at("126, second 30");
        edges.due("bus(1)", sentOn(ends, 39, 126).bus(1), 4);
        edges.at("127: nothing, but the names end");
        x = sentOn(ends, 32, 39, 127);
        edges.due("bus(1)", x.bus(1), 1);
        edges.due("device(1, 17)", x.device(1, 17), 0);
        edges.at("127 with nobody named, devices without a second");
        edges.due("bus(1)", sentOn(ends, 127).bus(1), 0);
        edges.at("a second that none has");
        x = sentOn(ends, 39, 97);
        edges.due("bus(1)", x.bus(1), 0);
        edges.due("device(1, 17)", x.device(1, 17), 0);
        edges.at("one of that second that is not named");
        edges.due("device(3, 6)", sentOn(ends, 39, 96).device(3, 6), 0);
        edges.due("bus(1)", sentOn(ends, 96).bus(1), 0);
        edges.at("112 to 126 are seconds, too, where no 5 was ahead");
        edges.due("bus(1)", sentOn("d2,0,31,1,0;d0,7,16,1,0;", 39, 112).bus(1), 2);
        edges.at("named to listen: who talks talks on");
        edges.due("bus(0)", sentOn(ends, 64, 39, 96).bus(0), 0);
        edges.sentence(6, "each that is NAMED to talk, its SECOND being S, TALKS, and nobody else does.");
        edges.at("96 and 126");
        edges.due("bus(0)", sentOn(ends, 71, 96).bus(0), 1);
        edges.due("bus(0)", sentOn(ends, 71, 126).bus(0), 2);
        edges.at("one talked before");
        x = sentOn(ends, 64, 71, 126);
        edges.due("bus(0)", x.bus(0), 2);
        edges.due("device(0, 5)", x.device(0, 5), 0);
        edges.at("a second that none has, 127: nobody talks");
        edges.due("bus(0)", sentOn(ends, 71, 97).bus(0), NONE);
        edges.due("bus(0)", sentOn(ends, 71, 127).bus(0), NONE);
        edges.at("named to talk: nobody listens by that, nor is remote");
        x = sentOn(ends, 71, 96);
        edges.due("bus(1)", x.bus(1), 0);
        edges.due("device(1, 7)", x.device(1, 7), 0);
    }

    private void allOthers() {
        edges.sentence(6, "nothing (but NAMED, PREPARED end, TICKS go by).");
        edges.at("each of the others, in a bus where much is set");
        for (int c : MEANT_FOR_NOTHING) {
            TalkBus x = filled();
            TalkBus y = filled();
            y.tick(5);
            edges.due("command(" + c + ")", x.command(c), y.bus(4));
            for (int d = 0; d < 6; d++) {
                for (int what = 0; what <= 17; what++) {
                    edges.due("device(" + d + ", " + what + ") behind " + c, x.device(d, what), y.device(d, what));
                }
            }
            for (int what = 0; what <= 8; what++) {
                edges.due("bus(" + what + ") behind " + c, x.bus(what), y.bus(what));
            }
        }
        edges.at("names end by each");
        for (int c : MEANT_FOR_NOTHING) {
            TalkBus x = sent(39, c);
            edges.due("device(2, 17) behind " + c, x.device(2, 17), 0);
            x.command(97);
            edges.due("bus(1) behind " + c, x.bus(1), 0);
        }
        edges.at("who is prepared ends by each");
        for (int c : MEANT_FOR_NOTHING) {
            edges.due("device(1, 11) behind " + c, sent(36, 5, c, 99).device(1, 11), NONE);
        }
    }

    /** Listeners 1 and 2 with lines, host 5 talks, all ask and have bytes, a reading is due. */
    private static TalkBus busy(int polling) {
        TalkBus x = sent(36, 39, 97, 5, 99, 85, polling);
        x.tune(1, 1, 60);
        x.command(8);
        for (int d = 0; d < 6; d++) {
            x.put(d, 100 + d);
            x.ask(d, 10 + d, 1);
        }
        return x;
    }

    private static boolean isOneOf(int[] all, int what) {
        for (int one : all) {
            if (one == what) {
                return true;
            }
        }
        return false;
    }

    /** All but these stays as if the command's ticks alone had gone by. */
    private void leavesAllBut(int c, int[] ofDevices, int[] ofBus) {
        edges.at(c + " leaves all but what it is told to change");
        for (int polling = 24; polling <= 25; polling++) {
            TalkBus x = busy(polling);
            TalkBus y = busy(polling);
            x.command(c);
            y.tick(5);
            for (int d = 0; d < 6; d++) {
                for (int what = 0; what <= 17; what++) {
                    if (!isOneOf(ofDevices, what)) {
                        edges.due("device(" + d + ", " + what + ")", x.device(d, what), y.device(d, what));
                    }
                }
            }
            for (int what = 0; what <= 8; what++) {
                if (!isOneOf(ofBus, what)) {
                    edges.due("bus(" + what + ")", x.bus(what), y.bus(what));
                }
            }
        }
    }

    private void nothingBesides() {
        int[] none = {};
        int[] cleared = {9, 10, 14, 15, 16};
        int[] askedOrGiven = {5, 6};
        edges.sentence(6, "What it does:");
        leavesAllBut(1, new int[] {7}, none);
        leavesAllBut(4, cleared, none);
        leavesAllBut(5, none, none);
        leavesAllBut(8, new int[] {13, 14}, none);
        leavesAllBut(9, new int[] {5}, new int[] {0, 2, 6});
        leavesAllBut(17, new int[] {8}, none);
        leavesAllBut(20, cleared, askedOrGiven);
        leavesAllBut(21, new int[] {11, 12}, none);
        leavesAllBut(24, none, new int[] {3});
        leavesAllBut(25, none, new int[] {3});
        leavesAllBut(41, new int[] {6, 7}, new int[] {1, 6});
        leavesAllBut(39, new int[] {17}, none);
        leavesAllBut(63, new int[] {6}, new int[] {1, 6});
        leavesAllBut(73, new int[] {5}, new int[] {0});
        leavesAllBut(71, new int[] {5, 17}, new int[] {0, 6});
        leavesAllBut(95, new int[] {5}, new int[] {0, 6});
        leavesAllBut(96, none, none);
        leavesAllBut(97, none, none);
        leavesAllBut(126, none, none);
        leavesAllBut(127, none, none);
    }
}
