/** Counts the answers of one test that are not as due, and tells each. */
final class Checks {
    private int wrong;
    private int asked;

    void due(String call, long got, long want) {
        asked++;
        if (got != want) {
            wrong++;
            System.out.println(call + " answered " + got + ", due is " + want);
        }
    }

    void holds(String what, boolean is) {
        due(what, is ? 1 : 0, 1);
    }

    /** Tells a text letter by letter behind what the text is already. */
    static void tell(TalkBus x, String text) {
        for (int i = 0; i < text.length(); i++) {
            x.write(text.charAt(i));
        }
    }

    static TalkBus laid(String text) {
        TalkBus x = new TalkBus();
        tell(x, text);
        if (x.lay() < 0) {
            throw new IllegalStateException("not laid: " + text);
        }
        return x;
    }

    static void send(TalkBus x, int... commands) {
        for (int c : commands) {
            x.command(c);
        }
    }

    /** All that an object tells of itself: to see that a refused call changed nothing. */
    static String stateOf(TalkBus x) {
        StringBuilder all = new StringBuilder();
        for (int what = 0; what <= 8; what++) {
            all.append(x.bus(what)).append(' ');
        }
        for (int what = 0; what <= 7; what++) {
            all.append(x.sum(what)).append(' ');
        }
        for (int d = 0; d < x.bus(7); d++) {
            for (int what = 0; what <= 17; what++) {
                all.append(x.device(d, what)).append(' ');
            }
            appendRow(all, x, d, 0, x.device(d, 15));
            appendRow(all, x, d, 1, x.device(d, 16));
        }
        int kept = x.log(-1, 0);
        for (int i = 0; i < kept; i++) {
            for (int what = 0; what <= 2; what++) {
                all.append(x.log(i, what)).append(' ');
            }
        }
        return all.append(x.fault()).toString();
    }

    private static void appendRow(StringBuilder all, TalkBus x, int d, int of, int bytes) {
        for (int i = 0; i < bytes; i++) {
            all.append(x.row(d, of, i)).append(' ');
        }
    }

    int asked() {
        return asked;
    }

    void end(String test) {
        System.out.println(test + ": " + asked + " answers, " + wrong + " not as due");
        if (wrong != 0) {
            System.exit(1);
        }
    }
}
