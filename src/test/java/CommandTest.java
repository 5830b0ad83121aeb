/** Promise 6: command, one meaning after the other. */
public final class CommandTest {
    private static final Checks CHECKS = new Checks();

    public static void main(String[] args) {
        rangeAndTicks();
        goLocal();
        clear();
        lines();
        prepared();
        trigger();
        triggerAgain();
        passCharge();
        lockAndPolling();
        listen();
        talk();
        seconds();
        named();
        nothingElse();
        CHECKS.end("CommandTest");
    }

    private static void rangeAndTicks() {
        TalkBus x = new TalkBus();
        String before = Checks.stateOf(x);
        for (int c : new int[] {-1, 128, 255, Integer.MIN_VALUE, Integer.MAX_VALUE}) {
            CHECKS.due("command(" + c + ")", x.command(c), TalkBus.BAD);
        }
        CHECKS.holds("BAD changes nothing", before.equals(Checks.stateOf(x)));
        CHECKS.due("command(0)", x.command(0), 5);
        CHECKS.due("command(127)", x.command(127), 10);
        x.tune(3, 0, 9);
        CHECKS.due("command at a new pace", x.command(3), 19);
        x.tune(3, 0, 1);
        x.tune(4, 0, 1);
        CHECKS.due("command at the next pace", x.command(3), 21);
        TalkBus y = Checks.laid("d2,0,31,3,0;");
        CHECKS.due("command, one device", y.command(77), 3);
        x = new TalkBus();
        Checks.send(x, 39, 5);
        x.command(128);
        x.command(-5);
        CHECKS.due("a BAD command is none in the log", x.log(0, 1), 5);
    }

    private static void goLocal() {
        TalkBus x = new TalkBus();
        Checks.send(x, 36, 41, 63, 41, 1);
        CHECKS.due("who listened once stays remote", x.device(1, 7), 1);
        CHECKS.due("who listens is not remote by 1", x.device(4, 7), 0);
        CHECKS.due("it listens still", x.device(4, 6), 1);
        Checks.send(x, 41, 17, 1);
        CHECKS.due("locked, 1 still helps", x.device(4, 7), 0);
    }

    private static TalkBus filled() {
        TalkBus x = new TalkBus();
        Checks.send(x, 36, 41, 17, 5, 107, 8);
        for (int d = 0; d < 6; d++) {
            x.put(d, 40 + d);
            x.ask(d, 30 + d, 1);
        }
        Checks.send(x, 85);
        x.give();
        x.tune(1, 1, 60);
        x.tune(4, 1, 60);
        Checks.send(x, 8);
        for (int d = 0; d < 6; d++) {
            x.put(d, 40 + d);
            x.ask(d, 30 + d, 1);
        }
        return x;
    }

    private static void cleared(TalkBus x, int d, boolean is) {
        CHECKS.due("status of " + d, x.device(d, 9), is ? 0 : 30 + d);
        CHECKS.due("asks of " + d, x.device(d, 10), is ? 0 : 1);
        CHECKS.holds("out of " + d, is == (x.device(d, 15) == 0));
        if (d == 1 || d == 4) {
            CHECKS.holds("in of " + d, is == (x.device(d, 16) == 0));
            CHECKS.holds("due of " + d, is == (x.device(d, 14) == TalkBus.NONE));
            CHECKS.due("triggers of " + d, x.device(d, 13), 2);
            CHECKS.due("line of " + d, x.device(d, 11), 3);
            CHECKS.due("sense of " + d, x.device(d, 12), 1);
            CHECKS.due("remote of " + d, x.device(d, 7), 1);
        }
        CHECKS.due("locked of " + d, x.device(d, 8), 1);
    }

    private static void clear() {
        TalkBus x = filled();
        Checks.send(x, 63, 41, 4);
        for (int d = 0; d < 6; d++) {
            cleared(x, d, d == 4);
        }
        CHECKS.due("who talks", x.bus(0), 5);
        x = filled();
        Checks.send(x, 63, 20);
        for (int d = 0; d < 6; d++) {
            cleared(x, d, true);
        }
        CHECKS.due("who talks", x.bus(0), 5);
        x.tick(100);
        CHECKS.due("no reading comes", x.sum(3), 2);
    }

    private static void lines() {
        for (int c = 96; c <= 127; c++) {
            TalkBus x = new TalkBus();
            Checks.send(x, 36, 5, 106, 63, 36, 41, 5, c);
            for (int d : new int[] {1, 4}) {
                CHECKS.due("line by " + c, x.device(d, 11), c < 112 ? (c - 96) % 8 : TalkBus.NONE);
                CHECKS.due("sense by " + c, x.device(d, 12), c < 112 ? (c - 96) / 8 : TalkBus.NONE);
            }
            CHECKS.due("who did not listen", x.device(0, 11), TalkBus.NONE);
            x.command(21);
            CHECKS.due("line behind 21", x.device(4, 11), TalkBus.NONE);
            CHECKS.due("sense behind 21", x.device(4, 12), TalkBus.NONE);
        }
    }

    private static void prepared() {
        TalkBus x = new TalkBus();
        Checks.send(x, 36, 5);
        x.tick(20);
        x.put(0, 3);
        x.parallel();
        x.give();
        x.command(99);
        CHECKS.due("ticks between do not matter", x.device(1, 11), 3);
        x.command(100);
        CHECKS.due("only the next one", x.device(1, 11), 3);
        Checks.send(x, 5, 0, 101);
        CHECKS.due("another between", x.device(1, 11), 3);
        Checks.send(x, 5, 5, 102);
        CHECKS.due("5 twice", x.device(1, 11), 6);
        Checks.send(x, 5, 41, 97);
        CHECKS.due("a listener between", x.device(4, 11), TalkBus.NONE);
        CHECKS.due("a listener between", x.device(1, 11), 6);
        Checks.send(x, 5);
        x.takeBack();
        Checks.send(x, 97);
        CHECKS.due("taken back", x.device(1, 11), 6);
        Checks.send(x, 39, 5, 97);
        CHECKS.due("a name ends by 5", x.device(2, 6), 0);
        Checks.send(x, 36, 5);
        x.poll();
        Checks.send(x, 97);
        CHECKS.due("a poll between", x.device(1, 11), 6);
        Checks.send(x, 36, 5);
        x.put(0, 3);
        Checks.send(x, 64);
        x.give();
        Checks.send(x, 5);
        x.put(0, 3);
        CHECKS.due("a byte between", x.give(), 3);
        Checks.send(x, 97);
        CHECKS.due("a byte between", x.device(1, 11), 1);
    }

    private static void trigger() {
        TalkBus x = new TalkBus();
        Checks.send(x, 36, 32, 39, 98, 8);
        int[] triggers = {1, 1, 0, 1, 0, 0};
        for (int d = 0; d < 6; d++) {
            CHECKS.due("triggers of " + d, x.device(d, 13), triggers[d]);
            CHECKS.due("due of " + d, x.device(d, 14), d == 1 ? 5 : TalkBus.NONE);
        }
        CHECKS.due("sum(7)", x.sum(7), 3);
        x.put(1, 200);
        x.put(1, 201);
        x.put(1, 202);
        x.tick(4);
        CHECKS.due("not yet", x.device(1, 14), 1);
        CHECKS.due("not yet", x.row(1, 0, 0), 200);
        x.tick(1);
        CHECKS.due("due no more", x.device(1, 14), TalkBus.NONE);
        CHECKS.due("out is two", x.device(1, 15), 2);
        CHECKS.due("tens of 19", x.row(1, 0, 0), '1');
        CHECKS.due("ones of 19", x.row(1, 0, 1), '9');
        CHECKS.due("status", x.device(1, 9), 16);
        CHECKS.due("asks", x.device(1, 10), 1);
        CHECKS.due("sum(3)", x.sum(3), 1);
        x.tick(500);
        CHECKS.due("sum(3)", x.sum(3), 1);

        TalkBus y = Checks.laid("d2,0,31,1,0;d1,30,31,1,0;");
        Checks.send(y, 62, 8);
        CHECKS.due("delay 0: at once", y.device(1, 14), TalkBus.NONE);
        CHECKS.due("tens of 97", y.row(1, 0, 0), '9');
        CHECKS.due("ones of 97", y.row(1, 0, 1), '7');
        y.command(8);
        CHECKS.due("tens of 104", y.row(1, 0, 0), '0');
        CHECKS.due("ones of 104", y.row(1, 0, 1), '4');
        CHECKS.due("sum(3)", y.sum(3), 2);
        for (int n = 3; n <= 400; n++) {
            y.command(8);
        }
        CHECKS.due("triggers", y.device(1, 13), 400);
        CHECKS.due("tens of 2890", y.row(1, 0, 0), '9');
        CHECKS.due("ones of 2890", y.row(1, 0, 1), '0');
    }

    private static void triggerAgain() {
        TalkBus x = Checks.laid("d2,0,31,2,0;d1,3,31,2,10;");
        Checks.send(x, 35, 8);
        x.tick(7);
        CHECKS.due("due", x.device(1, 14), 3);
        x.command(8);
        CHECKS.due("in place of one that was", x.device(1, 14), 10);
        CHECKS.due("sum(3)", x.sum(3), 0);
        x.tick(8);
        x.command(8);
        CHECKS.due("a reading due in its ticks comes first", x.sum(3), 1);
        CHECKS.due("it is of the triggers before", x.row(1, 0, 0), '2');
        CHECKS.due("it is of the triggers before", x.row(1, 0, 1), '3');
        CHECKS.due("due anew", x.device(1, 14), 10);
        x.tick(8);
        x.command(4);
        CHECKS.due("it comes ahead of the clearing", x.sum(3), 2);
        CHECKS.due("cleared", x.device(1, 15), 0);
        x.command(8);
        x.tune(1, 1, 0);
        CHECKS.due("a reading that is due stays due", x.device(1, 14), 10);
    }

    private static void passCharge() {
        TalkBus x = new TalkBus();
        x.command(9);
        CHECKS.due("nobody talks", x.bus(2), 0);
        Checks.send(x, 68, 9);
        CHECKS.due("no host", x.bus(2), 0);
        CHECKS.due("it talks on", x.bus(0), 1);
        Checks.send(x, 64, 9);
        CHECKS.due("in charge already", x.bus(0), 0);
        CHECKS.due("sum(6)", x.sum(6), 0);
        Checks.send(x, 53, 85, 9);
        CHECKS.due("charge", x.bus(2), 5);
        CHECKS.due("nobody talks", x.bus(0), TalkBus.NONE);
        CHECKS.due("it listens on", x.device(5, 6), 1);
        CHECKS.due("sum(6)", x.sum(6), 1);
        CHECKS.due("the 9 was sent by 0", x.log(0, 2), 0);
        Checks.send(x, 64);
        CHECKS.due("the next by 5", x.log(0, 2), 5);
        Checks.send(x, 9);
        CHECKS.due("charge", x.bus(2), 0);
        CHECKS.due("sum(6)", x.sum(6), 2);
    }

    private static void lockAndPolling() {
        TalkBus x = new TalkBus();
        x.command(17);
        for (int d = 0; d < 6; d++) {
            CHECKS.due("locked " + d, x.device(d, 8), 1);
            CHECKS.due("remote " + d, x.device(d, 7), 0);
        }
        CHECKS.due("polling", x.bus(3), 0);
        x.command(24);
        CHECKS.due("polling", x.bus(3), 1);
        x.command(24);
        CHECKS.due("polling", x.bus(3), 1);
        x.command(25);
        CHECKS.due("polling", x.bus(3), 0);
    }

    private static void listen() {
        for (int c = 32; c <= 62; c++) {
            TalkBus x = new TalkBus();
            Checks.send(x, 85, 53, c);
            for (int d = 0; d < 6; d++) {
                boolean meant = x.device(d, 1) == c - 32;
                boolean second = x.device(d, 2) != 31;
                CHECKS.due("listens by " + c, x.device(d, 6), d == 5 || (meant && !second) ? 1 : 0);
                CHECKS.due("remote by " + c, x.device(d, 7), d == 5 || (meant && !second) ? 1 : 0);
                CHECKS.due("named by " + c, x.device(d, 17), meant && second ? 1 : 0);
            }
            CHECKS.due("who talks", x.bus(0), 5);
            x.command(63);
            CHECKS.due("63", x.bus(1), 0);
            CHECKS.due("remote behind 63", x.device(5, 7), 1);
            CHECKS.due("who talks behind 63", x.bus(0), 5);
        }
    }

    private static void talk() {
        for (int c = 64; c <= 94; c++) {
            TalkBus x = new TalkBus();
            Checks.send(x, 36, 85, c);
            int talks = TalkBus.NONE;
            for (int d = 0; d < 6; d++) {
                boolean meant = x.device(d, 1) == c - 64;
                boolean second = x.device(d, 2) != 31;
                CHECKS.due("talks by " + c, x.device(d, 5), meant && !second ? 1 : 0);
                CHECKS.due("named by " + c, x.device(d, 17), meant && second ? 2 : 0);
                CHECKS.due("remote by " + c, x.device(d, 7), d == 1 ? 1 : 0);
                talks = meant && !second ? d : talks;
            }
            CHECKS.due("who talks by " + c, x.bus(0), talks);
            CHECKS.due("who listens by " + c, x.bus(1), 2);
            x.command(95);
            CHECKS.due("95", x.bus(0), TalkBus.NONE);
            CHECKS.due("95", x.bus(1), 2);
        }
    }

    private static void seconds() {
        TalkBus x = Checks.laid("d2,0,0,1,0;d0,0,30,1,0;d2,5,30,1,0;d0,5,16,1,0;d1,5,0,1,0;");
        Checks.send(x, 37, 126);
        CHECKS.due("37, 126", x.bus(1), 4);
        CHECKS.due("remote", x.device(2, 7), 1);
        Checks.send(x, 37, 112);
        CHECKS.due("37, 112", x.bus(1), 12);
        Checks.send(x, 32, 96);
        CHECKS.due("32, 96", x.bus(1), 13);
        Checks.send(x, 37, 127);
        CHECKS.due("37, 127", x.bus(1), 13);
        CHECKS.due("named behind 127", x.device(4, 17), 0);
        Checks.send(x, 69, 126);
        CHECKS.due("69, 126", x.bus(0), 2);
        Checks.send(x, 37, 96);
        CHECKS.due("37, 96 leaves who talks", x.bus(0), 2);
        CHECKS.due("37, 96", x.bus(1), 29);
        Checks.send(x, 126);
        CHECKS.due("126 alone", x.bus(0), 2);
        CHECKS.due("126 alone", x.bus(1), 29);
        Checks.send(x, 64, 126);
        CHECKS.due("64, 126", x.bus(0), 1);
        CHECKS.due("talks", x.device(2, 5), 0);
        CHECKS.due("not remote by talking", x.device(1, 7), 0);
        Checks.send(x, 69);
        CHECKS.due("69", x.bus(0), TalkBus.NONE);
        Checks.send(x, 97);
        CHECKS.due("69, 97", x.bus(0), TalkBus.NONE);
        Checks.send(x, 69, 112, 69, 96);
        CHECKS.due("69, 96", x.bus(0), 4);
        Checks.send(x, 69, 126, 9);
        CHECKS.due("a host with a second in charge", x.bus(2), 2);
    }

    private static void named() {
        TalkBus x = new TalkBus();
        Checks.send(x, 39);
        CHECKS.due("named", x.device(2, 17), 1);
        CHECKS.due("named", x.device(3, 17), 1);
        Checks.send(x, 71);
        CHECKS.due("named anew", x.device(2, 17), 2);
        CHECKS.due("named anew", x.device(3, 17), 2);
        x.tick(5);
        x.parallel();
        x.give();
        x.put(2, 1);
        CHECKS.due("named still", x.device(2, 17), 2);
        Checks.send(x, 98);
        CHECKS.due("talks", x.bus(0), 3);
        CHECKS.due("does not listen", x.bus(1), 0);
        CHECKS.due("named no more", x.device(2, 17), 0);
        CHECKS.due("named no more", x.device(3, 17), 0);
        Checks.send(x, 97);
        CHECKS.due("only the next command", x.bus(0), 3);
        Checks.send(x, 39, 36);
        CHECKS.due("named till the next", x.device(2, 17), 0);
        Checks.send(x, 97);
        CHECKS.due("no name any more", x.bus(1), 2);
        Checks.send(x, 39, 0, 97);
        CHECKS.due("no name any more", x.bus(1), 2);
        Checks.send(x, 39, 97);
        CHECKS.due("listens", x.bus(1), 6);
        Checks.send(x, 39);
        CHECKS.due("listens on, named", x.bus(1), 6);
    }

    private static void nothingElse() {
        for (int c : new int[] {0, 2, 3, 6, 7, 10, 11, 12, 13, 14, 15, 16, 18, 19, 22, 23, 26, 27,
            28, 29, 30, 31}) {
            TalkBus x = filled();
            TalkBus y = filled();
            CHECKS.due("command(" + c + ")", x.command(c), y.bus(4) + 5);
            y.tick(5);
            for (int d = 0; d < 6; d++) {
                for (int what = 0; what <= 17; what++) {
                    CHECKS.due("nothing by " + c, x.device(d, what), y.device(d, what));
                }
            }
            for (int what = 0; what <= 8; what++) {
                CHECKS.due("nothing by " + c, x.bus(what), y.bus(what));
            }
        }
    }
}
