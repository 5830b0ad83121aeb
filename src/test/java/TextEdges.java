/** Boundary cases of promises 1 to 5, and of the devices and the text in the terms. */
final class TextEdges {
    private static final int BAD = TalkBus.BAD, NO = TalkBus.NO, FULL = TalkBus.FULL, NONE = TalkBus.NONE;
    private static final String HOST = "d2,0,31,1,0;";
    private static final String AT_FIRST =
        "d2,0,31,1,0;d1,4,31,2,5;d0,7,1,1,0;d0,7,2,4,0;d1,9,31,5,2;d2,21,31,1,0;";
    private static final int[][] NUMBERS_AT_FIRST = {
        {2, 0, 31, 1, 0}, {1, 4, 31, 2, 5}, {0, 7, 1, 1, 0},
        {0, 7, 2, 4, 0}, {1, 9, 31, 5, 2}, {2, 21, 31, 1, 0}};

    private final Edges edges;

    TextEdges(Edges edges) {
        this.edges = edges;
    }

    void run() {
        newText();
        newDevices();
        newStates();
        newBus();
        letters();
        behindTheText();
        fullText();
        wiped();
        faultOrNone();
        howManyItems();
        numbersInRange();
        figures();
        formOfItems();
        likeAddresses();
        placeOfFault();
        placeOfLikeAddress();
        nextDevice();
        laidWithoutFault();
        laidWithHost();
        laidAsAtFirst();
        textStays();
    }

    private static TalkBus told(String text) {
        TalkBus x = new TalkBus();
        Checks.tell(x, text);
        return x;
    }

    private static TalkBus letters(int n) {
        return told("d".repeat(n));
    }

    // ---- promise 1

    private void newText() {
        edges.sentence(1, "As told; THE TEXT is empty.");
        edges.at("its length");
        edges.due("bus(8)", new TalkBus().bus(8), 0);
        edges.due("wipe()", new TalkBus().wipe(), 0);
        edges.at("no fault, but nothing to lay");
        edges.due("fault()", new TalkBus().fault(), NONE);
        edges.due("lay()", new TalkBus().lay(), NO);
        edges.at("the log and the sums");
        TalkBus x = new TalkBus();
        edges.due("log(-1, 0)", x.log(-1, 0), 0);
        edges.due("log(0, 0)", x.log(0, 0), NONE);
        for (int what = 0; what <= 7; what++) {
            edges.due("sum(" + what + ")", x.sum(what), 0);
        }
    }

    private void newDevices() {
        edges.sentence(1, "at first " + AT_FIRST);
        TalkBus x = new TalkBus();
        edges.at("six devices, no seventh");
        edges.due("bus(7)", x.bus(7), 6);
        edges.due("device(6, 0)", x.device(6, 0), BAD);
        edges.at("their numbers");
        for (int d = 0; d < 6; d++) {
            for (int what = 0; what <= 4; what++) {
                edges.due("device(" + d + ", " + what + ")", x.device(d, what), NUMBERS_AT_FIRST[d][what]);
            }
        }
        edges.at("as if that text had been laid");
        TalkBus laid = Checks.laid(AT_FIRST);
        laid.wipe();
        edges.holds("all is alike", Checks.stateOf(x).equals(Checks.stateOf(laid)));
    }

    private void newStates() {
        TalkBus x = new TalkBus();
        edges.sentence(1, "rows of bytes (12 at most each; empty at first)");
        edges.at("at first");
        for (int d = 0; d < 6; d++) {
            edges.due("device(" + d + ", 15)", x.device(d, 15), 0);
            edges.due("device(" + d + ", 16)", x.device(d, 16), 0);
        }
        edges.sentence(1, "a STATUS (0 to 63; 0), whether it ASKS, whether it TALKS, LISTENS, is REMOTE,"
            + " LOCKED (none of these at first)");
        edges.at("at first");
        for (int d = 0; d < 6; d++) {
            for (int what = 5; what <= 10; what++) {
                edges.due("device(" + d + ", " + what + ")", x.device(d, what), 0);
            }
            edges.due("device(" + d + ", 17)", x.device(d, 17), 0);
        }
        edges.sentence(1, "a LINE (0 to 7; none at first) with a SENSE (0, 1), TRIGGERS (how many it had),"
            + " and, a METER, when its READING is due (none)");
        edges.at("at first");
        for (int d = 0; d < 6; d++) {
            edges.due("device(" + d + ", 11)", x.device(d, 11), NONE);
            edges.due("device(" + d + ", 12)", x.device(d, 12), NONE);
            edges.due("device(" + d + ", 13)", x.device(d, 13), 0);
            edges.due("device(" + d + ", 14)", x.device(d, 14), NONE);
        }
    }

    private void newBus() {
        TalkBus x = new TalkBus();
        edges.sentence(1, "One DEVICE is in CHARGE (0 at first).");
        edges.at("at first");
        edges.due("bus(2)", x.bus(2), 0);
        edges.sentence(1, "POLLING is on or off (off at first).");
        edges.at("at first");
        edges.due("bus(3)", x.bus(3), 0);
        edges.sentence(1, "NOW is a number of TICKS (0 at first).");
        edges.at("at first");
        edges.due("bus(4)", x.bus(4), 0);
        edges.at("the first tick");
        edges.due("tick(1)", x.tick(1), 1);
    }

    // ---- promise 2

    private void letters() {
        edges.sentence(2, "A letter (32 to 126, as in ASCII)");
        edges.at("31, too small");
        edges.refused("write(31)", TalkBus::new, x -> x.write(31), BAD);
        edges.at("32, the least");
        edges.due("write(32)", new TalkBus().write(32), 1);
        edges.at("126, the greatest");
        edges.due("write(126)", new TalkBus().write(126), 1);
        edges.at("127, too large");
        edges.refused("write(127)", TalkBus::new, x -> x.write(127), BAD);
        edges.at("0, -1, and the ends of int");
        for (int letter : new int[] {0, -1, Integer.MIN_VALUE, Integer.MAX_VALUE}) {
            edges.refused("write(" + letter + ")", TalkBus::new, x -> x.write(letter), BAD);
        }
        edges.at("a number whose low bits are a letter");
        for (int letter : new int[] {256 + 'd', 65536 + 'd', 'd' - 256, 'd' - 65536}) {
            edges.refused("write(" + letter + ")", TalkBus::new, x -> x.write(letter), BAD);
        }
        edges.at("each letter of ASCII");
        TalkBus x = new TalkBus();
        for (int letter = 32; letter <= 126; letter++) {
            edges.due("write(" + letter + ")", x.write(letter), letter - 31);
        }
    }

    private void behindTheText() {
        edges.sentence(2, "comes behind THE TEXT: how long it is.");
        edges.at("the first and the second letter");
        TalkBus x = new TalkBus();
        edges.due("write('d')", x.write('d'), 1);
        edges.due("write('2')", x.write('2'), 2);
        edges.at("behind, not ahead");
        Checks.tell(x, ",0,31,1,0;");
        edges.due("fault()", x.fault(), NONE);
        edges.at("a refused letter is not in it");
        x.write(10);
        edges.due("fault()", x.fault(), NONE);
        edges.due("bus(8)", x.bus(8), 12);
    }

    private void fullText() {
        edges.sentence(2, "BAD; FULL: it has 200.");
        edges.at("the 200th letter");
        edges.due("write('d')", letters(199).write('d'), 200);
        edges.at("the 201st letter");
        edges.refused("write('d')", () -> letters(200), x -> x.write('d'), FULL);
        edges.at("BAD comes first");
        edges.refused("write(127)", () -> letters(200), x -> x.write(127), BAD);
        edges.at("behind a wipe it is not full");
        TalkBus x = letters(200);
        x.write('d');
        x.wipe();
        edges.due("write('d')", x.write('d'), 1);
        edges.sentence(2, "THE TEXT is letters (200 at most).");
        edges.at("as long as it says");
        edges.due("bus(8)", letters(200).bus(8), 200);
        edges.due("bus(8)", letters(210).bus(8), 200);
    }

    // ---- promise 3

    private void wiped() {
        edges.sentence(3, "THE TEXT is empty: how long it was.");
        edges.at("an empty one");
        edges.refused("wipe()", TalkBus::new, TalkBus::wipe, 0);
        edges.at("one letter");
        edges.due("wipe()", letters(1).wipe(), 1);
        edges.at("a full one");
        TalkBus x = letters(200);
        edges.due("wipe()", x.wipe(), 200);
        edges.at("twice");
        edges.due("wipe()", x.wipe(), 0);
        edges.at("it is empty then");
        edges.due("bus(8)", x.bus(8), 0);
        edges.due("fault()", x.fault(), NONE);
        edges.due("lay()", x.lay(), NO);
        edges.at("what was laid stays");
        TalkBus laid = Checks.laid(HOST + "d0,3,31,4,0;");
        laid.command(35);
        laid.wipe();
        edges.due("bus(7)", laid.bus(7), 2);
        edges.due("bus(1)", laid.bus(1), 2);
        edges.at("letters of before do not come again");
        for (int n = 1; n < HOST.length(); n++) {
            TalkBus again = told(HOST);
            again.wipe();
            Checks.tell(again, HOST.substring(0, n));
            edges.due("fault() of the first " + n, again.fault(), 0);
        }
        edges.at("what was laid can not be laid again by an empty text");
        laid.wipe();
        edges.due("fault()", laid.fault(), NONE);
        edges.due("lay()", laid.lay(), NO);
        edges.due("bus(7)", laid.bus(7), 2);
    }

    // ---- promise 4

    private void fault(String text, int want) {
        TalkBus x = told(text);
        edges.due("fault() of " + text, x.fault(), want);
        edges.due("fault() of " + text + " again", x.fault(), want);
    }

    private void faultOrNone() {
        edges.sentence(4, "FAULT of THE TEXT. NONE.");
        edges.at("an empty text");
        fault("", NONE);
        edges.at("one item");
        fault(HOST, NONE);
        edges.at("an item without its end");
        fault("d2,0,31,1,0", 0);
        edges.at("whose device 0 is no host: no fault");
        fault("d0,0,31,1,0;", NONE);
        fault("d1,0,31,1,0;", NONE);
        edges.at("it changes nothing");
        edges.refused("fault()", () -> told(HOST + "x"), TalkBus::fault, 12);
    }

    private void howManyItems() {
        String six = HOST + "d0,1,31,1,0;d0,2,31,1,0;d0,3,31,1,0;d0,4,31,1,0;d0,5,31,1,0;";
        edges.sentence(4, "(1 to 6), each with a KIND");
        edges.at("one and six");
        fault(HOST, NONE);
        fault(six, NONE);
        edges.sentence(4, "or that is the seventh");
        edges.at("a seventh that is as items are");
        fault(six + "d0,6,31,1,0;", 72);
        edges.at("a seventh that is not");
        fault(six + "x", 72);
        edges.at("an eighth: the seventh is the first fault");
        fault(six + "d0,6,31,1,0;d0,7,31,1,0;", 72);
        edges.at("a fault in the sixth comes first");
        fault(six.substring(0, 60) + "d3,5,31,1,0;d0,6,31,1,0;", 60);
        edges.at("items of two figures each");
        String two = "d02,00,31,01,00;d00,01,31,01,00;d00,02,31,01,00;d00,03,31,01,00;d00,04,31,01,00;"
            + "d00,05,31,01,00;";
        fault(two, NONE);
        fault(two + "d00,06,31,01,00;", 96);
    }

    private void numbersInRange() {
        edges.sentence(4, "a KIND (0 PLAIN, 1 METER, 2 HOST)");
        edges.at("0 and 2");
        fault(HOST + "d0,1,31,1,0;", NONE);
        fault(HOST + "d2,1,31,1,0;", NONE);
        edges.at("3, too large");
        fault(HOST + "d3,1,31,1,0;", 12);
        edges.sentence(4, "an ADDRESS (0 to 30)");
        edges.at("0 and 30");
        fault("d2,0,31,1,0;d0,30,31,1,0;", NONE);
        edges.at("31, too large");
        fault(HOST + "d0,31,31,1,0;", 12);
        fault(HOST + "d0,99,31,1,0;", 12);
        edges.sentence(4, "a SECOND (0 to 30; 31: it has none)");
        edges.at("0, 30, 31");
        fault(HOST + "d0,1,0,1,0;", NONE);
        fault(HOST + "d0,1,30,1,0;", NONE);
        fault(HOST + "d0,1,31,1,0;", NONE);
        edges.at("32, too large");
        fault(HOST + "d0,1,32,1,0;", 12);
        edges.sentence(4, "a PACE (1 to 9)");
        edges.at("1 and 9");
        fault(HOST + "d0,1,31,1,0;", NONE);
        fault(HOST + "d0,1,31,9,0;", NONE);
        edges.at("0, too small");
        fault(HOST + "d0,1,31,0,0;", 12);
        fault(HOST + "d0,1,31,00,0;", 12);
        edges.at("10, too large");
        fault(HOST + "d0,1,31,10,0;", 12);
        edges.sentence(4, "a DELAY (0 to 60;");
        edges.at("0 and 60");
        fault(HOST + "d1,1,31,1,0;", NONE);
        fault(HOST + "d1,1,31,1,60;", NONE);
        fault(HOST + "d0,1,31,1,60;", NONE);
        edges.at("61, too large, of a meter and of others");
        fault(HOST + "d1,1,31,1,61;", 12);
        fault(HOST + "d0,1,31,1,61;", 12);
    }

    private void figures() {
        edges.sentence(4, "numbers of one or two figures.");
        edges.at("one and two");
        fault("d2,5,6,7,8;", NONE);
        fault("d02,05,06,07,08;", NONE);
        edges.at("none");
        fault("d,5,6,7,8;", 0);
        fault("d2,,6,7,8;", 0);
        fault("d2,5,,7,8;", 0);
        fault("d2,5,6,,8;", 0);
        fault("d2,5,6,7,;", 0);
        edges.at("three");
        fault("d002,5,6,7,8;", 0);
        fault("d2,005,6,7,8;", 0);
        fault("d2,5,006,7,8;", 0);
        fault("d2,5,6,007,8;", 0);
        fault("d2,5,6,7,008;", 0);
        edges.at("signs beside the figures 0 and 9");
        fault("d2,/,6,7,8;", 0);
        fault("d2,:,6,7,8;", 0);
        fault("d2,1/,6,7,8;", 0);
        fault("d2,1:,6,7,8;", 0);
        edges.at("a sign of plus or minus");
        fault("d2,-1,6,7,8;", 0);
        fault("d2,+1,6,7,8;", 0);
    }

    private void formOfItems() {
        edges.sentence(4, "A TEXT is ITEMS, dK,A,S,P,D; each, one behind the other");
        edges.at("it ends ahead of its end");
        for (int n = 1; n < 12; n++) {
            fault(HOST.substring(0, n), 0);
            fault(HOST + "d0,1,31,1,0;".substring(0, n), 12);
        }
        edges.at("a blank ahead, inside, behind");
        fault(" " + HOST, 0);
        fault("d2,0, 31,1,0;", 0);
        fault("d2,0,31,1,0 ;", 0);
        fault(HOST + " ", 12);
        fault(HOST + " d0,1,31,1,0;", 12);
        edges.at("four numbers, six numbers");
        fault("d2,0,31,1;", 0);
        fault("d2,0,31,1,0,0;", 0);
        edges.at("other signs in their places");
        fault("D2,0,31,1,0;", 0);
        fault("e2,0,31,1,0;", 0);
        fault("c2,0,31,1,0;", 0);
        fault("d2;0,31,1,0;", 0);
        fault("d2,0;31,1,0;", 0);
        fault("d2,0,31;1,0;", 0);
        fault("d2,0,31,1;0;", 0);
        fault("d2,0,31,1,0,", 0);
        fault("d2.0,31,1,0;", 0);
        fault("d2,0,31,1,0:", 0);
        edges.at("an empty item");
        fault(";", 0);
        fault(HOST + ";", 12);
    }

    private void likeAddresses() {
        edges.sentence(4, "No two have like ADDRESSES, but with unlike SECONDS, neither of which is 31.");
        edges.at("like addresses, no seconds");
        fault("d2,5,31,1,0;d0,5,31,1,0;", 12);
        edges.at("the earlier has a second alone");
        fault("d2,5,0,1,0;d0,5,31,1,0;", 11);
        edges.at("the later has a second alone");
        fault("d2,5,31,1,0;d0,5,0,1,0;", 12);
        edges.at("like seconds");
        fault("d2,5,0,1,0;d0,5,0,1,0;", 11);
        fault("d2,5,30,1,0;d0,5,30,1,0;", 12);
        edges.at("unlike seconds");
        fault("d2,5,0,1,0;d0,5,30,1,0;", NONE);
        edges.at("like seconds, unlike addresses");
        fault("d2,5,0,1,0;d0,6,0,1,0;", NONE);
        edges.at("like by value, not by letters");
        fault("d2,5,31,1,0;d0,05,31,1,0;", 12);
        fault("d2,5,3,1,0;d0,05,03,1,0;", 11);
        edges.at("six of one address");
        fault("d2,5,0,1,0;d0,5,1,1,0;d0,5,2,1,0;d0,5,3,1,0;d0,5,4,1,0;d0,5,5,1,0;", NONE);
        edges.at("the sixth like the first, the first like none but it");
        fault("d2,5,0,1,0;d0,5,1,1,0;d0,5,2,1,0;d0,5,3,1,0;d0,5,4,1,0;d0,5,0,1,0;", 55);
        fault("d2,5,31,1,0;d0,1,31,1,0;d0,2,31,1,0;d0,3,31,1,0;d0,4,31,1,0;d0,5,31,1,0;", 60);
        edges.at("the sixth like the fifth");
        fault("d2,5,31,1,0;d0,1,31,1,0;d0,2,31,1,0;d0,3,31,1,0;d0,4,31,1,0;d0,4,31,1,0;", 60);
    }

    private void placeOfFault() {
        edges.sentence(4, "the place of the first letter of the first ITEM that is not so");
        edges.at("the first item: 0, wherever in it");
        fault("x", 0);
        fault("d2,0,31,1,99;", 0);
        edges.at("the second item");
        fault(HOST + "x", 12);
        edges.at("the third, behind longer ones");
        fault("d2,10,31,1,10;d0,11,31,1,10;x", 28);
        edges.at("of two faults the first");
        fault("d3,0,31,1,0;d3,1,31,1,0;", 0);
        fault(HOST + "d3,1,31,1,0;d0,0,31,1,0;", 12);
        fault(HOST + "d0,0,31,1,0;d3,1,31,1,0;", 12);
        edges.at("items behind it do not matter");
        fault(HOST + "x" + "d0,1,31,1,0;", 12);
        edges.at("a text of 200 letters");
        fault(HOST + "x".repeat(188), 12);
    }

    private void placeOfLikeAddress() {
        edges.sentence(4, "or that has the ADDRESS of an earlier one (but as told above).");
        edges.at("the later of the two is the fault");
        fault(HOST + "d0,1,31,1,0;d0,1,31,1,0;", 24);
        edges.at("three alike: the second");
        fault(HOST + "d0,0,31,1,0;d0,0,31,1,0;", 12);
        edges.at("like, but it is not as items are behind its address: its place all the same");
        fault(HOST + "d0,0,31,1,", 12);
        edges.at("a fault ahead of it comes first");
        fault("d2,0,31,0,0;d0,0,31,1,0;", 0);
        edges.at("addresses of an earlier text do not matter");
        TalkBus x = told(HOST + "d0,5,31,1,0;");
        x.fault();
        x.wipe();
        Checks.tell(x, "d2,5,31,1,0;");
        edges.due("fault()", x.fault(), NONE);
    }

    // ---- promise 5

    private void nextDevice() {
        edges.sentence(5, "KIND, ADDRESS, SECOND, PACE, DELAY of the next DEVICE");
        edges.at("in this order, device by device, of one and of two figures");
        TalkBus x = Checks.laid("d2,3,4,5,6;d01,30,07,08,09;d0,10,11,1,12;");
        int[][] want = {{2, 3, 4, 5, 6}, {1, 30, 7, 8, 9}, {0, 10, 11, 1, 12}};
        for (int d = 0; d < 3; d++) {
            for (int what = 0; what <= 4; what++) {
                edges.due("device(" + d + ", " + what + ")", x.device(d, what), want[d][what]);
            }
        }
    }

    private void laidWithoutFault() {
        edges.sentence(5, "LAID is a TEXT without FAULT");
        edges.at("an empty text has no device 0");
        edges.refused("lay()", TalkBus::new, TalkBus::lay, NO);
        edges.at("a fault in the first, in the last item");
        edges.refused("lay()", () -> told("d2,0,31,1,0"), TalkBus::lay, NO);
        edges.refused("lay()", () -> told(AT_FIRST + "d"), TalkBus::lay, NO);
        edges.refused("lay()", () -> told(HOST + HOST), TalkBus::lay, NO);
        edges.at("refused in the midst of a run");
        edges.refused("lay()", () -> run(HOST + "d"), TalkBus::lay, NO);
        edges.sentence(5, "LAID: how many DEVICES");
        edges.at("one");
        edges.due("lay()", told(HOST).lay(), 1);
        edges.at("six");
        edges.due("lay()", told(AT_FIRST).lay(), 6);
        edges.at("six, then one, then six again");
        TalkBus x = told(HOST);
        edges.due("lay()", x.lay(), 1);
        edges.due("device(1, 0)", x.device(1, 0), BAD);
        Checks.tell(x, AT_FIRST.substring(12));
        edges.due("lay()", x.lay(), 6);
        edges.due("device(5, 1)", x.device(5, 1), 21);
    }

    private static TalkBus run(String text) {
        TalkBus x = told(text);
        Checks.send(x, 36, 8, 39, 97, 17, 5, 99, 85, 9, 24, 68, 39);
        x.ask(3, 9, 1);
        x.put(2, 200);
        x.give();
        x.tune(3, 0, 9);
        x.command(5);
        return x;
    }

    private void laidWithHost() {
        edges.sentence(5, "whose DEVICE 0 is a HOST (NO else;");
        edges.at("plain");
        edges.refused("lay()", () -> told("d0,0,31,1,0;"), TalkBus::lay, NO);
        edges.at("a meter");
        edges.refused("lay()", () -> told("d1,0,31,1,0;"), TalkBus::lay, NO);
        edges.at("a host is not the first");
        edges.refused("lay()", () -> told("d0,0,31,1,0;d2,1,31,1,0;"), TalkBus::lay, NO);
        edges.at("the least and the greatest host");
        edges.due("lay()", told("d2,0,0,1,0;").lay(), 1);
        edges.due("lay()", told("d2,30,31,9,60;").lay(), 1);
        edges.at("a host was laid before, none is told now");
        TalkBus x = Checks.laid(HOST);
        x.wipe();
        Checks.tell(x, "d0,0,31,1,0;");
        edges.due("lay()", x.lay(), NO);
    }

    private void laidAsAtFirst() {
        edges.sentence(5, "all as at first, NOW 0, THE LOG empty, all sums 0");
        edges.at("behind a run that changed all");
        TalkBus x = run(AT_FIRST);
        edges.due("lay()", x.lay(), 6);
        edges.holds("as a new one", Checks.stateOf(x).equals(Checks.stateOf(told(AT_FIRST))));
        edges.at("a 5 ahead of it is none ahead of the next command");
        x = run(AT_FIRST);
        x.lay();
        Checks.send(x, 99);
        edges.due("device(1, 11)", x.device(1, 11), NONE);
        edges.at("a name ahead of it");
        x = told(AT_FIRST);
        Checks.send(x, 39);
        x.lay();
        Checks.send(x, 97);
        edges.due("bus(1)", x.bus(1), 0);
        edges.at("a reading that was due does not come");
        x = told(AT_FIRST);
        Checks.send(x, 36, 8);
        x.lay();
        edges.due("tick(500)", x.tick(500), 500);
        edges.due("sum(3)", x.sum(3), 0);
        edges.at("a pace that was tuned is told anew");
        x = told(AT_FIRST);
        x.tune(0, 0, 9);
        x.lay();
        edges.due("command(0)", x.command(0), 5);
        edges.at("charge that was passed on");
        x = told(AT_FIRST);
        Checks.send(x, 85, 9);
        x.lay();
        edges.due("bus(2)", x.bus(2), 0);
        edges.at("a log of more than 16");
        x = told(AT_FIRST);
        for (int n = 0; n < 20; n++) {
            x.command(n);
        }
        x.lay();
        edges.due("log(-1, 0)", x.log(-1, 0), 0);
        edges.due("log(0, 0)", x.log(0, 0), NONE);
    }

    private void textStays() {
        edges.sentence(5, "THE TEXT stays. NO.");
        edges.at("laid");
        TalkBus x = Checks.laid(HOST);
        edges.due("bus(8)", x.bus(8), 12);
        edges.at("laid again by the same text");
        x.tick(5);
        edges.due("lay()", x.lay(), 1);
        edges.due("bus(4)", x.bus(4), 0);
        edges.at("letters behind it");
        edges.due("write('d')", x.write('d'), 13);
        edges.due("lay()", x.lay(), NO);
        edges.at("refused");
        edges.due("bus(8)", x.bus(8), 13);
        edges.due("fault()", x.fault(), 12);
    }
}
