import java.util.ArrayList;
import java.util.List;
import java.util.regex.Matcher;
import java.util.regex.Pattern;

/**
 * The document once more, written apart from TalkBus and otherwise: tick by tick, with the library,
 * sets of devices in place of flags. Only to be compared with TalkBus.
 */
final class SlowBus {
    private static final int BAD = -1, NO = -2, FULL = -3, NONE = -4;
    private static final Pattern ITEM = Pattern.compile(
        "d(0?[0-2]),(0?[0-9]|[12][0-9]|30),(0?[0-9]|[12][0-9]|3[01]),(0?[1-9]),(0?[0-9]|[1-5][0-9]|60);");

    private static final class Unit {
        int kind, address, second, pace, delay, status, line = NONE, sense, triggers, due = -1;
        boolean asks, remote, locked;
        final List<Integer> out = new ArrayList<>();
        final List<Integer> in = new ArrayList<>();
    }

    private String text = "";
    private List<Unit> units = new ArrayList<>();
    private final List<Unit> talk = new ArrayList<>();
    private final List<Unit> listen = new ArrayList<>();
    private final List<Unit> toTalk = new ArrayList<>();
    private final List<Unit> toListen = new ArrayList<>();
    private List<Unit> ready = new ArrayList<>();
    private final List<int[]> sent = new ArrayList<>();
    private int[] sums = new int[8];
    private Unit charge;
    private boolean polling;
    private int now;

    SlowBus() {
        begin(read("d2,0,31,1,0;d1,4,31,2,5;d0,7,1,1,0;d0,7,2,4,0;d1,9,31,5,2;d2,21,31,1,0;"));
    }

    int call(int which, int a, int b, int c) {
        switch (which) {
            case 0: return write(a);
            case 1: return wipe();
            case 2: return faultOf(text);
            case 3: return lay();
            case 4: return a < 0 || a > 127 ? BAD : send(a);
            case 5: return give();
            case 6: return a < 1 || a > 500 ? BAD : pass(a);
            case 7: return poll();
            case 8: return parallel();
            case 9: return takeBack();
            case 10: return put(a, b);
            case 11: return take(a);
            case 12: return ask(a, b, c);
            case 13: return front(a);
            case 14: return tune(a, b, c);
            case 15: return device(a, b);
            case 16: return row(a, b, c);
            case 17: return bus(a);
            case 18: return a < 0 || a > 7 ? BAD : sums[a];
            default: return log(a, b);
        }
    }

    private int write(int letter) {
        if (letter < ' ' || letter > '~') return BAD;
        if (text.length() == 200) return FULL;
        text += (char) letter;
        return text.length();
    }

    private int wipe() {
        int was = text.length();
        text = "";
        return was;
    }

    private static int faultOf(String text) {
        List<Unit> good = read(text);
        int place = 0;
        Matcher m = ITEM.matcher(text);
        for (int n = 0; n < good.size(); n++) {
            m.find();
            place = m.end();
        }
        return place == text.length() ? NONE : place;
    }

    /** The items ahead of the first fault. */
    private static List<Unit> read(String text) {
        List<Unit> all = new ArrayList<>();
        Matcher m = ITEM.matcher(text);
        int place = 0;
        while (all.size() < 6 && place < text.length() && m.find(place) && m.start() == place) {
            Unit u = new Unit();
            u.kind = Integer.parseInt(m.group(1));
            u.address = Integer.parseInt(m.group(2));
            u.second = Integer.parseInt(m.group(3));
            u.pace = Integer.parseInt(m.group(4));
            u.delay = Integer.parseInt(m.group(5));
            for (Unit v : all) {
                boolean like = v.address == u.address;
                if (like && (v.second == 31 || u.second == 31 || v.second == u.second)) return all;
            }
            all.add(u);
            place = m.end();
        }
        return all;
    }

    private int lay() {
        List<Unit> told = read(text);
        if (faultOf(text) != NONE || told.isEmpty() || told.get(0).kind != 2) return NO;
        begin(told);
        return units.size();
    }

    private void begin(List<Unit> told) {
        units = told;
        talk.clear();
        listen.clear();
        toTalk.clear();
        toListen.clear();
        ready.clear();
        sent.clear();
        sums = new int[8];
        charge = units.get(0);
        polling = false;
        now = 0;
    }

    private int pass(int n) {
        for (int i = 0; i < n; i++) {
            now++;
            comeDue();
        }
        return now;
    }

    private void comeDue() {
        for (Unit u : units) {
            if (u.due == now) {
                String figures = String.format("%02d", (7 * u.triggers + 3 * u.address) % 100);
                u.out.clear();
                u.out.add((int) figures.charAt(0));
                u.out.add((int) figures.charAt(1));
                u.status = 16;
                u.asks = true;
                u.due = -1;
                sums[3]++;
            }
        }
    }

    private int send(int c) {
        boolean behindFive = !sent.isEmpty() && sent.get(0)[1] == 5;
        sent.add(0, new int[] {now, c, units.indexOf(charge)});
        sums[0]++;
        pass(units.stream().mapToInt(u -> u.pace).max().orElse(0));
        List<Unit> wereToTalk = new ArrayList<>(toTalk);
        List<Unit> wereToListen = new ArrayList<>(toListen);
        List<Unit> wereReady = ready;
        toTalk.clear();
        toListen.clear();
        ready = new ArrayList<>();
        if (c == 1) listen.forEach(u -> u.remote = false);
        if (c == 4) listen.forEach(this::clear);
        if (c == 5) ready = new ArrayList<>(listen);
        if (c == 8) listen.forEach(this::trigger);
        if (c == 9 && !talk.isEmpty() && talk.get(0).kind == 2 && talk.get(0) != charge) {
            charge = talk.remove(0);
            sums[6]++;
        }
        if (c == 17) units.forEach(u -> u.locked = true);
        if (c == 20) units.forEach(this::clear);
        if (c == 21) units.forEach(u -> u.line = NONE);
        if (c == 24) polling = true;
        if (c == 25) polling = false;
        if (c == 63) listen.clear();
        if (c >= 64 && c <= 95) talk.clear();
        for (Unit u : units) {
            if (c == 32 + u.address) {
                if (u.second == 31) hear(u);
                else toListen.add(u);
            }
            if (c == 64 + u.address) {
                (u.second == 31 ? talk : toTalk).add(u);
            }
            if (c >= 96 && behindFive && wereReady.contains(u)) {
                u.line = c < 112 ? (c - 96) % 8 : NONE;
                u.sense = (c - 96) / 8;
            }
            if (c == 96 + u.second && c != 127 && !behindFive) {
                if (wereToListen.contains(u)) hear(u);
                if (wereToTalk.contains(u)) {
                    talk.clear();
                    talk.add(u);
                }
            }
        }
        return now;
    }

    private void hear(Unit u) {
        if (!listen.contains(u)) listen.add(u);
        u.remote = true;
    }

    private void clear(Unit u) {
        u.out.clear();
        u.in.clear();
        u.status = 0;
        u.asks = false;
        u.due = -1;
    }

    private void trigger(Unit u) {
        u.triggers = u.triggers == 999 ? 999 : u.triggers + 1;
        sums[7]++;
        if (u.kind == 1) {
            u.due = now + u.delay;
            comeDue();
        }
    }

    private List<Unit> hearers() {
        List<Unit> all = new ArrayList<>(listen);
        all.removeAll(talk);
        return all;
    }

    private int cost() {
        List<Unit> hearers = hearers();
        if (talk.isEmpty() || hearers.isEmpty()) return NO;
        if (!polling && talk.get(0).out.isEmpty()) return NO;
        if (hearers.stream().anyMatch(u -> u.in.size() == 12)) return NO;
        return 2 + hearers.stream().mapToInt(u -> u.pace).max().orElse(0);
    }

    private int give() {
        int cost = cost();
        if (cost == NO) return NO;
        pass(cost);
        Unit from = talk.get(0);
        int b;
        if (polling) {
            b = from.status + (from.asks ? 64 : 0);
            from.asks = false;
        } else {
            b = from.out.remove(0);
        }
        for (Unit u : hearers()) {
            u.in.add(b);
            sums[2]++;
        }
        sums[1]++;
        return b;
    }

    private void address(int base, Unit u) {
        send(base + u.address);
        if (u.second < 31) send(96 + u.second);
    }

    private int poll() {
        int found = NONE;
        send(63);
        address(32, charge);
        send(24);
        for (Unit u : units) {
            if (u == charge) continue;
            address(64, u);
            if (give() >= 64) {
                found = units.indexOf(u);
                sums[5]++;
                break;
            }
        }
        send(25);
        send(95);
        sums[4]++;
        return found;
    }

    private int parallel() {
        pass(1);
        int bits = 0;
        for (Unit u : units) {
            if (u.line != NONE && u.asks == (u.sense == 1)) bits |= 1 << u.line;
        }
        return bits;
    }

    private int takeBack() {
        int was = units.indexOf(charge);
        talk.clear();
        listen.clear();
        toTalk.clear();
        toListen.clear();
        ready.clear();
        polling = false;
        charge = units.get(0);
        return was;
    }

    private boolean out(int d) {
        return d < 0 || d >= units.size();
    }

    private int put(int d, int b) {
        if (out(d) || b < 0 || b > 255) return BAD;
        Unit u = units.get(d);
        if (u.out.size() == 12) return FULL;
        u.out.add(b);
        return u.out.size();
    }

    private int take(int d) {
        if (out(d)) return BAD;
        Unit u = units.get(d);
        return u.in.isEmpty() ? NONE : u.in.remove(0);
    }

    private int ask(int d, int status, int asks) {
        if (out(d) || status < 0 || status > 63 || (asks != 0 && asks != 1)) return BAD;
        Unit u = units.get(d);
        int was = u.status + (u.asks ? 64 : 0);
        u.status = status;
        u.asks = asks == 1;
        return was;
    }

    private int front(int d) {
        if (out(d)) return BAD;
        Unit u = units.get(d);
        u.remote = u.remote && u.locked;
        return u.remote ? 0 : 1;
    }

    private int tune(int d, int what, int v) {
        if (out(d)) return BAD;
        Unit u = units.get(d);
        if (what == 0 && v >= 1 && v <= 9) {
            int was = u.pace;
            u.pace = v;
            return was == v ? NO : was;
        }
        if (what == 1 && v >= 0 && v <= 60) {
            int was = u.delay;
            u.delay = v;
            return was == v ? NO : was;
        }
        return BAD;
    }

    private int device(int d, int what) {
        if (out(d) || what < 0 || what > 17) return BAD;
        Unit u = units.get(d);
        int[] all = {u.kind, u.address, u.second, u.pace, u.delay, one(talk.contains(u)),
            one(listen.contains(u)), one(u.remote), one(u.locked), u.status, one(u.asks), u.line,
            u.line == NONE ? NONE : u.sense, u.triggers, u.due < 0 ? NONE : u.due - now,
            u.out.size(), u.in.size(), one(toListen.contains(u)) + 2 * one(toTalk.contains(u))};
        return all[what];
    }

    private static int one(boolean is) {
        return is ? 1 : 0;
    }

    private int row(int d, int of, int i) {
        if (out(d) || (of != 0 && of != 1) || i < 0) return BAD;
        List<Integer> bytes = of == 0 ? units.get(d).out : units.get(d).in;
        return i < bytes.size() ? bytes.get(i) : NONE;
    }

    private int bus(int what) {
        if (what < 0 || what > 8) return BAD;
        int bits = 0;
        for (Unit u : listen) bits += 1 << units.indexOf(u);
        int[] all = {talk.isEmpty() ? NONE : units.indexOf(talk.get(0)), bits,
            units.indexOf(charge), one(polling), now, one(units.stream().anyMatch(u -> u.asks)),
            cost(), units.size(), text.length()};
        return all[what];
    }

    private int log(int i, int what) {
        if (i < -1 || what < 0 || what > 2) return BAD;
        int kept = Math.min(16, sent.size());
        if (i == -1) return kept;
        return i < kept ? sent.get(i)[what] : NONE;
    }
}
