/** Promises 2 to 5: write, wipe, fault, lay. */
public final class TextTest {
    private static final Checks CHECKS = new Checks();
    private static final String HOST = "d2,0,31,1,0;";

    public static void main(String[] args) {
        write();
        wipe();
        faultsOfForm();
        faultsOfRange();
        faultsOfAddress();
        faultsOfNumber();
        lay();
        layBeginsAnew();
        layRefused();
        nothingStaysOfEarlierLetters();
        CHECKS.end("TextTest");
    }

    private static void write() {
        TalkBus x = new TalkBus();
        for (int letter : new int[] {31, 127, 0, -1, 128, 356, Integer.MAX_VALUE, Integer.MIN_VALUE}) {
            CHECKS.due("write(" + letter + ")", x.write(letter), TalkBus.BAD);
        }
        CHECKS.due("bus(8)", x.bus(8), 0);
        CHECKS.due("write(32)", x.write(32), 1);
        CHECKS.due("write(126)", x.write(126), 2);
        for (int n = 3; n <= 200; n++) {
            CHECKS.due("write, the " + n + "th", x.write(100), n);
        }
        CHECKS.due("write, FULL", x.write(100), TalkBus.FULL);
        CHECKS.due("write, BAD ahead of FULL", x.write(31), TalkBus.BAD);
        CHECKS.due("bus(8)", x.bus(8), 200);
        CHECKS.due("fault()", x.fault(), 0);
        CHECKS.due("wipe()", x.wipe(), 200);
        CHECKS.due("write(100)", x.write(100), 1);
    }

    private static void wipe() {
        TalkBus x = new TalkBus();
        Checks.tell(x, "abc");
        CHECKS.due("wipe()", x.wipe(), 3);
        CHECKS.due("wipe()", x.wipe(), 0);
        CHECKS.due("bus(8)", x.bus(8), 0);
        CHECKS.due("fault()", x.fault(), TalkBus.NONE);
    }

    private static void fault(String text, int want) {
        TalkBus x = new TalkBus();
        Checks.tell(x, text);
        CHECKS.due("fault() of " + text, x.fault(), want);
        CHECKS.due("bus(8) of " + text, x.bus(8), text.length());
        if (want != TalkBus.NONE) {
            CHECKS.due("lay() of " + text, x.lay(), TalkBus.NO);
        }
    }

    private static void faultsOfForm() {
        fault("", TalkBus.NONE);
        fault(HOST, TalkBus.NONE);
        fault("d02,00,31,01,00;", TalkBus.NONE);
        fault("d2,00,31,1,0;d0,1,05,9,60;", TalkBus.NONE);
        for (int n = 1; n < HOST.length(); n++) {
            fault(HOST.substring(0, n), 0);
            fault(HOST + "d0,1,31,1,0;".substring(0, n), 12);
        }
        for (int n = 0; n < HOST.length(); n++) {
            fault(HOST.substring(0, n) + ' ' + HOST.substring(n), 0);
            fault(HOST.substring(0, n) + HOST.substring(n + 1), n == 5 || n == 6 ? TalkBus.NONE : 0);
        }
        fault(HOST + " ", 12);
        fault(HOST + ";", 12);
        fault("D2,0,31,1,0;", 0);
        fault("d2;0;31;1;0;", 0);
        fault("d2,0,31,1,0,", 0);
        fault("d2,0,31,1;", 0);
        fault("d2,0,31,1,0,0;", 0);
        fault("d002,0,31,1,0;", 0);
        fault("d2,000,31,1,0;", 0);
        fault("d2,0,031,1,0;", 0);
        fault("d2,0,31,001,0;", 0);
        fault("d2,0,31,1,000;", 0);
        fault("d2,-1,31,1,0;", 0);
        fault("d2,:,31,1,0;", 0);
        fault("d2,/,31,1,0;", 0);
    }

    private static void faultsOfRange() {
        fault("d3,0,31,1,0;", 0);
        fault("d0,0,31,1,0;", TalkBus.NONE);
        fault("d2,30,31,1,0;", TalkBus.NONE);
        fault("d2,31,31,1,0;", 0);
        fault("d2,0,0,1,0;", TalkBus.NONE);
        fault("d2,0,30,1,0;", TalkBus.NONE);
        fault("d2,0,32,1,0;", 0);
        fault("d2,0,31,0,0;", 0);
        fault("d2,0,31,9,0;", TalkBus.NONE);
        fault("d2,0,31,10,0;", 0);
        fault("d2,0,31,1,60;", TalkBus.NONE);
        fault("d2,0,31,1,61;", 0);
        fault("d2,0,31,1,99;", 0);
    }

    private static void faultsOfAddress() {
        fault(HOST + "d1,0,31,1,0;", 12);
        fault(HOST + "d1,0,5,1,0;", 12);
        fault("d2,0,5,1,0;d1,0,31,1,0;", 11);
        fault("d2,0,5,1,0;d1,0,5,1,0;", 11);
        fault("d2,0,5,1,0;d1,0,6,1,0;", TalkBus.NONE);
        fault("d2,0,5,1,0;d1,0,6,1,0;d0,0,05,1,0;", 22);
        fault("d2,0,5,1,0;d1,0,6,1,0;d0,0,0,1,0;", TalkBus.NONE);
        fault("d2,0,5,1,0;d1,1,5,1,0;", TalkBus.NONE);
        fault(HOST + "d1,1,31,1,0;d0,2,31,1,0;d0,1,31,1,0;x", 36);
        fault(HOST + "x" + HOST, 12);
    }

    private static void faultsOfNumber() {
        String six = HOST + "d1,1,31,1,0;d0,2,31,1,0;d0,3,31,1,0;d0,4,31,1,0;d2,5,31,1,0;";
        fault(six, TalkBus.NONE);
        fault(six + "d0,6,31,1,0;", 72);
        fault(six + "d", 72);
        fault(six + "?", 72);
        fault(HOST + "d1,1,31,1,0;d0,2,31,1,0;d0,3,31,1,0;d0,4,31,1,0;d2,4,31,1,0;d0,6,31,1,0;", 60);
    }

    private static void lay() {
        TalkBus x = new TalkBus();
        Checks.tell(x, "d2,30,7,9,60;d1,2,31,3,4;");
        CHECKS.due("lay()", x.lay(), 2);
        CHECKS.due("bus(7)", x.bus(7), 2);
        CHECKS.due("bus(8)", x.bus(8), 25);
        int[][] want = {{2, 30, 7, 9, 60}, {1, 2, 31, 3, 4}};
        for (int d = 0; d < 2; d++) {
            for (int what = 0; what < 5; what++) {
                CHECKS.due("device(" + d + ", " + what + ")", x.device(d, what), want[d][what]);
            }
        }
        CHECKS.due("device(2, 0)", x.device(2, 0), TalkBus.BAD);
        CHECKS.due("command(0)", x.command(0), 9);
        Checks.tell(x, "d0,3,31,1,0;d0,4,31,1,0;d0,5,31,1,0;d0,6,31,1,0;");
        CHECKS.due("lay()", x.lay(), 6);
        CHECKS.due("device(5, 1)", x.device(5, 1), 6);
        x.wipe();
        Checks.tell(x, HOST);
        CHECKS.due("lay()", x.lay(), 1);
        CHECKS.due("poll()", x.poll(), TalkBus.NONE);
    }

    private static void layBeginsAnew() {
        String first = "d2,0,31,1,0;d1,4,31,2,5;d0,7,1,1,0;d0,7,2,4,0;d1,9,31,5,2;d2,21,31,1,0;";
        TalkBus fresh = new TalkBus();
        Checks.tell(fresh, first);
        TalkBus x = new TalkBus();
        Checks.tell(x, first);
        Checks.send(x, 36, 41, 32, 5, 107, 8, 17, 24, 85, 9, 68);
        x.put(2, 5);
        x.put(1, 6);
        x.ask(3, 7, 1);
        x.give();
        x.tune(0, 0, 8);
        x.tune(2, 1, 8);
        x.poll();
        Checks.send(x, 68, 71);
        x.command(8);
        CHECKS.holds("much has changed", !Checks.stateOf(x).equals(Checks.stateOf(fresh)));
        CHECKS.due("lay()", x.lay(), 6);
        CHECKS.holds("all as at first", Checks.stateOf(x).equals(Checks.stateOf(fresh)));

        Checks.send(x, 36, 5);
        x.lay();
        x.command(107);
        CHECKS.due("a 5 ahead of lay prepares none", x.device(1, 11), TalkBus.NONE);
        x.command(24);
        x.lay();
        CHECKS.due("polling is off behind lay", x.bus(3), 0);
        x.command(71);
        x.lay();
        x.command(97);
        CHECKS.due("a name ahead of lay is none", x.bus(0), TalkBus.NONE);
    }

    private static void layRefused() {
        String[] texts = {"", "d0,0,31,1,0;", "d1,0,31,1,0;", "d1,0,31,1,0;" + "d2,1,31,1,0;",
            HOST + "d", HOST + HOST, "d2,0,31,1,0"};
        for (String text : texts) {
            TalkBus x = new TalkBus();
            Checks.tell(x, text);
            Checks.send(x, 36, 8, 73);
            x.put(2, 5);
            String before = Checks.stateOf(x);
            CHECKS.due("lay() of " + text, x.lay(), TalkBus.NO);
            CHECKS.holds("nothing changed by lay() of " + text, before.equals(Checks.stateOf(x)));
        }
    }

    private static void nothingStaysOfEarlierLetters() {
        TalkBus x = new TalkBus();
        Checks.tell(x, HOST);
        CHECKS.due("lay()", x.lay(), 1);
        x.wipe();
        CHECKS.due("lay() of nothing", x.lay(), TalkBus.NO);
        CHECKS.due("bus(7)", x.bus(7), 1);
        for (int n = 1; n < HOST.length(); n++) {
            x.wipe();
            Checks.tell(x, HOST.substring(0, n));
            CHECKS.due("fault(), the old letters behind it", x.fault(), 0);
            CHECKS.due("lay(), the old letters behind it", x.lay(), TalkBus.NO);
        }
    }
}
