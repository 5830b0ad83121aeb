/** Promises 9 to 11: poll, parallel, takeBack. */
public final class PollTest {
    private static final Checks CHECKS = new Checks();

    public static void main(String[] args) {
        noneAsks();
        found();
        foundInOrder();
        byAnother();
        withSecond();
        fullIn();
        readingOnTheWay();
        parallel();
        parallelReading();
        takeBack();
        CHECKS.end("PollTest");
    }

    /** The latest commands, the latest first. */
    private static void logged(TalkBus x, int... bytes) {
        for (int i = 0; i < bytes.length; i++) {
            CHECKS.due("log(" + i + ", 1)", x.log(i, 1), bytes[i]);
        }
    }

    private static void noneAsks() {
        TalkBus x = new TalkBus();
        x.ask(3, 63, 0);
        Checks.send(x, 36, 68);
        CHECKS.due("poll()", x.poll(), TalkBus.NONE);
        logged(x, 95, 25, 85, 73, 98, 71, 97, 71, 68, 24, 32, 63, 68, 36);
        CHECKS.due("now", x.bus(4), 14 * 5 + 5 * 3);
        CHECKS.due("in", x.device(0, 16), 5);
        int[] in = {0, 0, 63, 0, 0};
        for (int i = 0; i < 5; i++) {
            CHECKS.due("row", x.row(0, 1, i), in[i]);
        }
        CHECKS.due("who listens", x.bus(1), 1);
        CHECKS.due("remote", x.device(0, 7), 1);
        CHECKS.due("who talks", x.bus(0), TalkBus.NONE);
        CHECKS.due("polling", x.bus(3), 0);
        int[] sums = {14, 5, 5, 0, 1, 0, 0, 0};
        for (int what = 0; what < 8; what++) {
            CHECKS.due("sum(" + what + ")", x.sum(what), sums[what]);
        }
        x.command(24);
        x.take(0);
        CHECKS.due("poll()", x.poll(), TalkBus.NONE);
        CHECKS.due("polling is off behind it", x.bus(3), 0);
    }

    private static void found() {
        TalkBus x = new TalkBus();
        x.ask(3, 5, 1);
        x.ask(0, 9, 1);
        x.ask(5, 0, 1);
        CHECKS.due("poll()", x.poll(), 3);
        logged(x, 95, 25, 98, 71, 97, 71, 68, 24, 32, 63);
        CHECKS.due("log(-1, 0)", x.log(-1, 0), 10);
        CHECKS.due("in", x.device(0, 16), 3);
        CHECKS.due("row", x.row(0, 1, 2), 69);
        CHECKS.due("asks", x.device(3, 10), 0);
        CHECKS.due("asks", x.device(0, 10), 1);
        CHECKS.due("asks", x.device(5, 10), 1);
        CHECKS.due("poll()", x.poll(), 5);
        CHECKS.due("status 0, but it asks", x.row(0, 1, 7), 64);
        CHECKS.due("sum(4)", x.sum(4), 2);
        CHECKS.due("sum(5)", x.sum(5), 2);
        x.command(20);
        x.ask(0, 9, 1);
        CHECKS.due("the one in charge is not asked", x.poll(), TalkBus.NONE);
        CHECKS.due("sum(4)", x.sum(4), 3);
        CHECKS.due("sum(5)", x.sum(5), 2);
    }

    private static void foundInOrder() {
        TalkBus x = new TalkBus();
        for (int d = 1; d < 6; d++) {
            x.ask(d, d, 1);
        }
        for (int d = 1; d < 6; d++) {
            CHECKS.due("poll()", x.poll(), d);
            x.command(32);
            for (int n = 0; n < 12; n++) {
                x.take(0);
            }
        }
        CHECKS.due("poll()", x.poll(), TalkBus.NONE);
        CHECKS.due("sum(5)", x.sum(5), 5);
    }

    private static void byAnother() {
        TalkBus x = new TalkBus();
        Checks.send(x, 85, 9);
        x.ask(0, 1, 1);
        x.ask(5, 2, 1);
        CHECKS.due("poll()", x.poll(), 0);
        logged(x, 95, 25, 64, 24, 53, 63, 9);
        CHECKS.due("by whom", x.log(0, 2), 5);
        CHECKS.due("in of 5", x.row(5, 1, 0), 65);
        CHECKS.due("in of 0", x.device(0, 16), 0);
        CHECKS.due("charge", x.bus(2), 5);
        CHECKS.due("sum(6)", x.sum(6), 1);
        CHECKS.due("poll()", x.poll(), TalkBus.NONE);
        CHECKS.due("it asks still", x.device(5, 10), 1);
    }

    private static void withSecond() {
        TalkBus x = Checks.laid("d2,8,30,1,0;d0,8,0,2,0;d0,9,31,1,0;");
        x.ask(2, 3, 1);
        CHECKS.due("poll()", x.poll(), 2);
        logged(x, 95, 25, 73, 96, 72, 24, 126, 40, 63);
        CHECKS.due("now", x.bus(4), 9 * 2 + 2 * 3);
        CHECKS.due("in", x.row(0, 1, 1), 67);
        CHECKS.due("listeners", x.bus(1), 1);
        CHECKS.due("in of 1", x.device(1, 16), 0);
    }

    private static void fullIn() {
        TalkBus x = new TalkBus();
        Checks.send(x, 32, 85);
        for (int n = 0; n < 11; n++) {
            x.put(5, n);
            x.give();
        }
        x.ask(2, 3, 1);
        int now = x.bus(4);
        CHECKS.due("only the first can give", x.poll(), TalkBus.NONE);
        CHECKS.due("now", x.bus(4), now + 12 * 5 + 3);
        CHECKS.due("it asks still", x.device(2, 10), 1);
        CHECKS.due("in", x.device(0, 16), 12);
        x.take(0);
        x.take(0);
        CHECKS.due("poll()", x.poll(), 2);
        CHECKS.due("row", x.row(0, 1, 11), 67);
    }

    private static void readingOnTheWay() {
        TalkBus x = Checks.laid("d2,0,31,1,0;d1,4,31,1,7;d1,5,31,1,8;");
        Checks.send(x, 36, 37, 8);
        CHECKS.due("it comes as the byte is given", x.poll(), 1);
        CHECKS.due("row", x.row(0, 1, 0), 80);
        CHECKS.due("poll()", x.poll(), 2);
        CHECKS.due("sum(3)", x.sum(3), 2);
        Checks.send(x, 36, 8);
        CHECKS.due("device(1, 14)", x.device(1, 14), 7);
        x.ask(1, 0, 0);
        x.tune(1, 1, 8);
        Checks.send(x, 8);
        CHECKS.due("it comes behind the byte", x.poll(), TalkBus.NONE);
        CHECKS.due("but it asks then", x.device(1, 10), 1);
    }

    private static void parallel() {
        TalkBus x = new TalkBus();
        CHECKS.due("no lines", x.parallel(), 0);
        CHECKS.due("now", x.bus(4), 1);
        Checks.send(x, 36, 5, 96, 63, 41, 5, 111, 63, 32, 5, 103, 63, 53, 5, 108);
        CHECKS.due("device(4, 11)", x.device(4, 11), 7);
        CHECKS.due("parallel()", x.parallel(), 1 + 128);
        x.ask(1, 0, 1);
        CHECKS.due("parallel()", x.parallel(), 128);
        x.ask(0, 0, 1);
        CHECKS.due("parallel()", x.parallel(), 0);
        x.ask(4, 0, 1);
        CHECKS.due("parallel()", x.parallel(), 128);
        x.ask(5, 0, 1);
        CHECKS.due("parallel()", x.parallel(), 128 + 16);
        CHECKS.due("they ask still", x.device(5, 10), 1);
        CHECKS.due("no command", x.sum(0), 15);
        CHECKS.due("no poll one by one", x.sum(4), 0);
        CHECKS.due("now", x.bus(4), 15 * 5 + 6);
        x.command(21);
        CHECKS.due("no lines", x.parallel(), 0);
    }

    private static void parallelReading() {
        TalkBus x = Checks.laid("d2,0,31,1,0;d1,4,31,1,1;");
        Checks.send(x, 36, 5, 106, 8);
        CHECKS.due("a reading comes ahead", x.parallel(), 4);
        CHECKS.due("sum(3)", x.sum(3), 1);
    }

    private static void takeBack() {
        TalkBus x = new TalkBus();
        Checks.send(x, 85, 9, 36, 17, 68, 24, 39, 5, 106, 71);
        int now = x.bus(4);
        CHECKS.due("named", x.device(2, 17), 2);
        CHECKS.due("takeBack()", x.takeBack(), 5);
        CHECKS.due("who talks", x.bus(0), TalkBus.NONE);
        CHECKS.due("who listens", x.bus(1), 0);
        CHECKS.due("charge", x.bus(2), 0);
        CHECKS.due("polling", x.bus(3), 0);
        CHECKS.due("now", x.bus(4), now);
        CHECKS.due("named", x.device(2, 17), 0);
        CHECKS.due("remote stays", x.device(1, 7), 1);
        CHECKS.due("locked stays", x.device(1, 8), 1);
        CHECKS.due("line stays", x.device(1, 11), 2);
        CHECKS.due("no command", x.sum(0), 10);
        CHECKS.due("not passed on", x.sum(6), 1);
        CHECKS.due("log", x.log(0, 1), 71);
        Checks.send(x, 97);
        CHECKS.due("no name any more", x.bus(0), TalkBus.NONE);
        Checks.send(x, 68);
        CHECKS.due("talks", x.bus(0), 1);
        CHECKS.due("takeBack()", x.takeBack(), 0);
        CHECKS.due("who talks", x.bus(0), TalkBus.NONE);
        Checks.send(x, 36, 8);
        x.takeBack();
        CHECKS.due("a reading stays due", x.device(1, 14), 5);
        CHECKS.due("triggers stay", x.device(1, 13), 1);
    }
}
