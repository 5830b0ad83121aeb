/** A bench bus of up to six devices, as the document's promises tell it. */
public final class TalkBus {
    public static final int BAD = -1, NO = -2, FULL = -3, NONE = -4;

    private static final int MOST_DEVICES = 6;
    private static final int MOST_LETTERS = 200;
    private static final int MOST_BYTES = 12;
    private static final int MOST_LOGGED = 16;
    private static final int MOST_TRIGGERS = 999;
    private static final int MOST_TICKS = 500;

    private static final int METER = 1;
    private static final int HOST = 2;
    private static final int NO_SECOND = 31;

    // What an item of the text tells of a device, in its order.
    private static final int KIND = 0;
    private static final int ADDRESS = 1;
    private static final int SECOND = 2;
    private static final int PACE = 3;
    private static final int DELAY = 4;
    private static final int NUMBERS = 5;
    private static final int[] LEAST = {0, 0, 0, 1, 0};
    private static final int[] GREATEST = {2, 30, 31, 9, 60};
    private static final int[] FIRST_DEVICES = {
        2, 0, 31, 1, 0,
        1, 4, 31, 2, 5,
        0, 7, 1, 1, 0,
        0, 7, 2, 4, 0,
        1, 9, 31, 5, 2,
        2, 21, 31, 1, 0
    };

    private static final int GO_LOCAL = 1;
    private static final int CLEAR_LISTENERS = 4;
    private static final int PREPARE = 5;
    private static final int TRIGGER = 8;
    private static final int PASS_CHARGE = 9;
    private static final int LOCK_ALL = 17;
    private static final int CLEAR_ALL = 20;
    private static final int DROP_LINES = 21;
    private static final int POLLING_ON = 24;
    private static final int POLLING_OFF = 25;
    private static final int LISTEN = 32;
    private static final int NOBODY_LISTENS = 63;
    private static final int TALK = 64;
    private static final int NOBODY_TALKS = 95;
    private static final int BY_SECOND = 96;
    private static final int DROP_LINE = 112;
    private static final int LAST_COMMAND = 127;

    private static final int NOT_NAMED = 0;
    private static final int NAMED_TO_LISTEN = 1;
    private static final int NAMED_TO_TALK = 2;

    private static final int ASKING = 64;
    private static final int READING_STATUS = 16;
    private static final int TICKS_BESIDE_PACE = 2;

    private static final int COMMANDS = 0;
    private static final int BYTES_GIVEN = 1;
    private static final int BYTES_HEARD = 2;
    private static final int READINGS = 3;
    private static final int POLLS = 4;
    private static final int FOUND = 5;
    private static final int PASSED_ON = 6;
    private static final int TRIGGERED = 7;
    private static final int SUMS = 8;

    private final Text text;
    private final Device[] devices;
    private final CommandLog sent;
    private final int[] sums;
    private int count;
    private int now;
    private int charge;
    private int talker;
    private int latest;
    private boolean polling;

    public TalkBus() {
        text = new Text();
        devices = new Device[MOST_DEVICES];
        for (int i = 0; i < MOST_DEVICES; i++) {
            devices[i] = new Device();
        }
        sent = new CommandLog();
        sums = new int[SUMS];
        beginWith(FIRST_DEVICES, MOST_DEVICES);
    }

    // ---- told

    public int write(int letter) {
        if (letter < 32 || letter > 126) {
            return BAD;
        }
        return text.append(letter);
    }

    public int wipe() {
        return text.empty();
    }

    public int fault() {
        return text.firstFault();
    }

    public int lay() {
        if (text.firstFault() != NONE || !text.beginsWithHost()) {
            return NO;
        }
        beginWith(text.numbers, text.items);
        return count;
    }

    // ---- the bus

    public int command(int c) {
        if (c < 0 || c > LAST_COMMAND) {
            return BAD;
        }
        send(c);
        return now;
    }

    public int give() {
        return giveByte();
    }

    public int tick(int n) {
        if (n < 1 || n > MOST_TICKS) {
            return BAD;
        }
        passTicks(n);
        return now;
    }

    public int poll() {
        sums[POLLS]++;
        send(NOBODY_LISTENS);
        sendAddress(LISTEN, charge);
        send(POLLING_ON);
        int found = NONE;
        for (int i = 0; i < count && found == NONE; i++) {
            if (i != charge) {
                sendAddress(TALK, i);
                if (giveByte() >= ASKING) {
                    found = i;
                }
            }
        }
        send(POLLING_OFF);
        send(NOBODY_TALKS);
        if (found != NONE) {
            sums[FOUND]++;
        }
        return found;
    }

    public int parallel() {
        passTicks(1);
        int lines = 0;
        for (int i = 0; i < count; i++) {
            lines |= devices[i].lineBit();
        }
        return lines;
    }

    public int takeBack() {
        int before = charge;
        talker = NONE;
        endListening();
        endNamedAndPrepared();
        polling = false;
        charge = 0;
        return before;
    }

    // ---- devices by themselves

    public int put(int d, int b) {
        if (!isDevice(d) || b < 0 || b > 255) {
            return BAD;
        }
        return devices[d].out.append(b);
    }

    public int take(int d) {
        if (!isDevice(d)) {
            return BAD;
        }
        return devices[d].in.removeFirst();
    }

    public int ask(int d, int status, int asks) {
        if (!isDevice(d) || status < 0 || status > 63 || asks < 0 || asks > 1) {
            return BAD;
        }
        int before = devices[d].pollByte();
        devices[d].status = status;
        devices[d].asks = asks == 1;
        return before;
    }

    public int front(int d) {
        if (!isDevice(d)) {
            return BAD;
        }
        if (!devices[d].locked) {
            devices[d].remote = false;
        }
        return bit(!devices[d].remote);
    }

    public int tune(int d, int what, int v) {
        if (!isDevice(d) || what < 0 || what > 1) {
            return BAD;
        }
        int number = what == 0 ? PACE : DELAY;
        if (v < LEAST[number] || v > GREATEST[number]) {
            return BAD;
        }
        int before = what == 0 ? devices[d].pace : devices[d].delay;
        if (v == before) {
            return NO;
        }
        if (what == 0) {
            devices[d].pace = v;
        } else {
            devices[d].delay = v;
        }
        return before;
    }

    // ---- looked at

    public int device(int d, int what) {
        if (!isDevice(d)) {
            return BAD;
        }
        if (what == 5) {
            return bit(d == talker);
        }
        return what < 9 ? devices[d].tellSetting(what) : devices[d].tellState(what, now);
    }

    public int row(int d, int of, int i) {
        if (!isDevice(d) || of < 0 || of > 1 || i < 0) {
            return BAD;
        }
        return of == 0 ? devices[d].out.at(i) : devices[d].in.at(i);
    }

    public int bus(int what) {
        switch (what) {
            case 0:
                return talker;
            case 1:
                return listenerBits();
            case 2:
                return charge;
            case 3:
                return bit(polling);
            case 4:
                return now;
            case 5:
                return bit(someoneAsks());
            case 6:
                return ticksOfNextByte();
            case 7:
                return count;
            case 8:
                return text.length;
            default:
                return BAD;
        }
    }

    public int sum(int what) {
        if (what < 0 || what >= SUMS) {
            return BAD;
        }
        return sums[what];
    }

    public int log(int i, int what) {
        if (i < -1 || what < 0 || what > 2) {
            return BAD;
        }
        return i == -1 ? sent.size : sent.tell(i, what);
    }

    // ---- how the bus works inside

    private void beginWith(int[] numbers, int items) {
        count = items;
        for (int i = 0; i < count; i++) {
            devices[i].begin(numbers, i * NUMBERS);
        }
        sent.empty();
        for (int i = 0; i < SUMS; i++) {
            sums[i] = 0;
        }
        now = 0;
        charge = 0;
        talker = NONE;
        latest = NONE;
        polling = false;
    }

    private boolean isDevice(int d) {
        return d >= 0 && d < count;
    }

    private static int bit(boolean holds) {
        return holds ? 1 : 0;
    }

    /** No reading changes another device's, so all that came due on the way may come at the end. */
    private void passTicks(int n) {
        now += n;
        for (int i = 0; i < count; i++) {
            if (devices[i].isDueBy(now)) {
                devices[i].comeReading();
                sums[READINGS]++;
            }
        }
    }

    private int greatestPace() {
        int greatest = 0;
        for (int i = 0; i < count; i++) {
            greatest = Math.max(greatest, devices[i].pace);
        }
        return greatest;
    }

    private void sendAddress(int group, int d) {
        send(group + devices[d].address);
        if (devices[d].second != NO_SECOND) {
            send(BY_SECOND + devices[d].second);
        }
    }

    private void send(int c) {
        sent.keep(now, c, charge);
        sums[COMMANDS]++;
        passTicks(greatestPace());
        // A second looks at who was named or prepared; only behind that do these end.
        if (c >= BY_SECOND) {
            obeySecond(c - BY_SECOND);
        }
        endNamedAndPrepared();
        if (c < LISTEN) {
            obeyPlain(c);
        } else if (c < NOBODY_LISTENS) {
            callListener(c - LISTEN);
        } else if (c == NOBODY_LISTENS) {
            endListening();
        } else if (c < NOBODY_TALKS) {
            callTalker(c - TALK);
        } else if (c == NOBODY_TALKS) {
            talker = NONE;
        }
        latest = c;
    }

    private void obeyPlain(int c) {
        switch (c) {
            case PASS_CHARGE:
                passCharge();
                break;
            case POLLING_ON:
                polling = true;
                break;
            case POLLING_OFF:
                polling = false;
                break;
            case LOCK_ALL:
            case CLEAR_ALL:
            case DROP_LINES:
                for (int i = 0; i < count; i++) {
                    obeyAsOneOfAll(c, devices[i]);
                }
                break;
            default:
                for (int i = 0; i < count; i++) {
                    if (devices[i].listens) {
                        obeyAsListener(c, devices[i]);
                    }
                }
                break;
        }
    }

    private void obeyAsOneOfAll(int c, Device one) {
        if (c == LOCK_ALL) {
            one.locked = true;
        } else if (c == CLEAR_ALL) {
            one.clear();
        } else {
            one.line = NONE;
        }
    }

    private void obeyAsListener(int c, Device one) {
        if (c == GO_LOCAL) {
            one.remote = false;
        } else if (c == CLEAR_LISTENERS) {
            one.clear();
        } else if (c == PREPARE) {
            one.prepared = true;
        } else if (c == TRIGGER) {
            triggerOne(one);
        }
    }

    private void triggerOne(Device one) {
        sums[TRIGGERED]++;
        one.beTriggered(now);
        if (one.isDueBy(now)) {
            one.comeReading();
            sums[READINGS]++;
        }
    }

    private void passCharge() {
        if (isDevice(talker) && talker != charge && devices[talker].kind == HOST) {
            charge = talker;
            talker = NONE;
            sums[PASSED_ON]++;
        }
    }

    private void callListener(int address) {
        for (int i = 0; i < count; i++) {
            if (devices[i].address == address) {
                if (devices[i].second == NO_SECOND) {
                    devices[i].beginListening();
                } else {
                    devices[i].named = NAMED_TO_LISTEN;
                }
            }
        }
    }

    private void callTalker(int address) {
        talker = NONE;
        for (int i = 0; i < count; i++) {
            if (devices[i].address == address) {
                if (devices[i].second == NO_SECOND) {
                    talker = i;
                } else {
                    devices[i].named = NAMED_TO_TALK;
                }
            }
        }
    }

    private void obeySecond(int number) {
        if (latest == PREPARE) {
            setLines(number);
        } else if (number != NO_SECOND) {
            answerSecond(number);
        }
    }

    private void setLines(int number) {
        for (int i = 0; i < count; i++) {
            if (devices[i].prepared) {
                if (number < DROP_LINE - BY_SECOND) {
                    devices[i].line = number & 7;
                    devices[i].sense = number >> 3;
                } else {
                    devices[i].line = NONE;
                }
            }
        }
    }

    private void answerSecond(int second) {
        for (int i = 0; i < count; i++) {
            if (devices[i].second == second) {
                if (devices[i].named == NAMED_TO_LISTEN) {
                    devices[i].beginListening();
                } else if (devices[i].named == NAMED_TO_TALK) {
                    talker = i;
                }
            }
        }
    }

    private void endListening() {
        for (int i = 0; i < count; i++) {
            devices[i].listens = false;
        }
    }

    private void endNamedAndPrepared() {
        for (int i = 0; i < count; i++) {
            devices[i].named = NOT_NAMED;
            devices[i].prepared = false;
        }
    }

    private boolean takesBytes(int d) {
        return d != talker && devices[d].listens;
    }

    /** NO, if no byte can be given as things stand. */
    private int ticksOfNextByte() {
        if (!isDevice(talker) || (!polling && devices[talker].out.size == 0)) {
            return NO;
        }
        int slowest = 0;
        for (int i = 0; i < count; i++) {
            if (takesBytes(i)) {
                if (devices[i].in.size >= MOST_BYTES) {
                    return NO;
                }
                slowest = Math.max(slowest, devices[i].pace);
            }
        }
        return slowest == 0 ? NO : slowest + TICKS_BESIDE_PACE;
    }

    private int giveByte() {
        int ticks = ticksOfNextByte();
        if (ticks == NO || !isDevice(talker)) {
            return NO;
        }
        // A reading may come in these ticks, so the byte is chosen behind them.
        passTicks(ticks);
        int given;
        if (polling) {
            given = devices[talker].pollByte();
            devices[talker].asks = false;
        } else {
            given = devices[talker].out.removeFirst();
        }
        for (int i = 0; i < count; i++) {
            if (takesBytes(i)) {
                devices[i].in.append(given);
                sums[BYTES_HEARD]++;
            }
        }
        sums[BYTES_GIVEN]++;
        return given;
    }

    private int listenerBits() {
        int bits = 0;
        for (int i = 0; i < count; i++) {
            if (devices[i].listens) {
                bits |= 1 << i;
            }
        }
        return bits;
    }

    private boolean someoneAsks() {
        for (int i = 0; i < count; i++) {
            if (devices[i].asks) {
                return true;
            }
        }
        return false;
    }

    /** The letters told so far, and the numbers of the items that were read from them last. */
    private static final class Text {
        private final char[] letters = new char[MOST_LETTERS];
        private final int[] numbers = new int[MOST_DEVICES * NUMBERS];
        private int length;
        private int items;

        int append(int letter) {
            if (length >= MOST_LETTERS) {
                return FULL;
            }
            letters[length] = (char) letter;
            length++;
            return length;
        }

        int empty() {
            int before = length;
            length = 0;
            return before;
        }

        int firstFault() {
            items = 0;
            int start = 0;
            for (int n = 0; n < MOST_DEVICES && start < length; n++) {
                int behind = readItem(start, n * NUMBERS);
                if (behind < 0 || hasTakenAddress(n)) {
                    return start;
                }
                start = behind;
                items = n + 1;
            }
            return start < length ? start : NONE;
        }

        boolean beginsWithHost() {
            return items > 0 && numbers[KIND] == HOST;
        }

        /** The place behind the item; -1, if it is not as items are. */
        private int readItem(int start, int base) {
            if (letterAt(start) != 'd') {
                return -1;
            }
            int place = start + 1;
            for (int f = 0; f < NUMBERS; f++) {
                int figures = figuresAt(place);
                int value = numberAt(place, figures);
                if (figures == 0 || value < LEAST[f] || value > GREATEST[f]) {
                    return -1;
                }
                place += figures;
                if (letterAt(place) != (f == NUMBERS - 1 ? ';' : ',')) {
                    return -1;
                }
                place++;
                numbers[base + f] = value;
            }
            return place;
        }

        private char letterAt(int place) {
            return place >= 0 && place < length ? letters[place] : (char) 0;
        }

        private boolean isFigure(int place) {
            char letter = letterAt(place);
            return letter >= '0' && letter <= '9';
        }

        /** Two at most: a third figure is then no comma, so that its item is a fault. */
        private int figuresAt(int place) {
            if (!isFigure(place)) {
                return 0;
            }
            return isFigure(place + 1) ? 2 : 1;
        }

        private int numberAt(int place, int figures) {
            int value = 0;
            for (int i = 0; i < figures; i++) {
                value = value * 10 + letterAt(place + i) - '0';
            }
            return value;
        }

        private boolean hasTakenAddress(int item) {
            int address = numbers[item * NUMBERS + ADDRESS];
            int second = numbers[item * NUMBERS + SECOND];
            for (int n = 0; n < item; n++) {
                int other = numbers[n * NUMBERS + SECOND];
                boolean apart = second != other && second != NO_SECOND && other != NO_SECOND;
                if (numbers[n * NUMBERS + ADDRESS] == address && !apart) {
                    return true;
                }
            }
            return false;
        }
    }

    /** Bytes that wait, the first that came first. */
    private static final class ByteRow {
        private final int[] bytes = new int[MOST_BYTES];
        private int size;

        int append(int b) {
            if (size >= MOST_BYTES) {
                return FULL;
            }
            bytes[size] = b;
            size++;
            return size;
        }

        int removeFirst() {
            if (size == 0) {
                return NONE;
            }
            int first = bytes[0];
            size--;
            for (int i = 0; i < size; i++) {
                bytes[i] = bytes[i + 1];
            }
            return first;
        }

        int at(int i) {
            return i >= 0 && i < size ? bytes[i] : NONE;
        }

        void empty() {
            size = 0;
        }
    }

    /** A ring, so that the latest commands stay without moving any. */
    private static final class CommandLog {
        private final int[] ticks = new int[MOST_LOGGED];
        private final int[] bytes = new int[MOST_LOGGED];
        private final int[] charges = new int[MOST_LOGGED];
        private int size;
        private int next;

        void empty() {
            size = 0;
            next = 0;
        }

        void keep(int tick, int c, int inCharge) {
            ticks[next] = tick;
            bytes[next] = c;
            charges[next] = inCharge;
            next = (next + 1) % MOST_LOGGED;
            size = Math.min(size + 1, MOST_LOGGED);
        }

        int tell(int i, int what) {
            if (i < 0 || i >= size) {
                return NONE;
            }
            int place = (next + MOST_LOGGED - 1 - i) % MOST_LOGGED;
            if (what == 0) {
                return ticks[place];
            }
            return what == 1 ? bytes[place] : charges[place];
        }
    }

    private static final class Device {
        private final ByteRow out = new ByteRow();
        private final ByteRow in = new ByteRow();
        private int kind;
        private int address;
        private int second;
        private int pace;
        private int delay;
        private int status;
        private boolean asks;
        private boolean listens;
        private boolean remote;
        private boolean locked;
        private boolean prepared;
        private int named;
        private int line;
        private int sense;
        private int triggers;
        private int due;

        void begin(int[] numbers, int base) {
            kind = numbers[base + KIND];
            address = numbers[base + ADDRESS];
            second = numbers[base + SECOND];
            pace = numbers[base + PACE];
            delay = numbers[base + DELAY];
            clear();
            listens = false;
            remote = false;
            locked = false;
            prepared = false;
            named = NOT_NAMED;
            line = NONE;
            sense = 0;
            triggers = 0;
        }

        void clear() {
            out.empty();
            in.empty();
            status = 0;
            asks = false;
            due = NONE;
        }

        void beginListening() {
            listens = true;
            remote = true;
        }

        void beTriggered(int now) {
            triggers = Math.min(triggers + 1, MOST_TRIGGERS);
            if (kind == METER) {
                due = now + delay;
            }
        }

        boolean isDueBy(int now) {
            return due != NONE && due <= now;
        }

        void comeReading() {
            int reading = (7 * triggers + 3 * address) % 100;
            out.empty();
            out.append('0' + reading / 10);
            out.append('0' + reading % 10);
            status = READING_STATUS;
            asks = true;
            due = NONE;
        }

        int pollByte() {
            return asks ? status + ASKING : status;
        }

        int lineBit() {
            return line != NONE && sense == bit(asks) ? 1 << line : 0;
        }

        int tellSetting(int what) {
            switch (what) {
                case 0:
                    return kind;
                case 1:
                    return address;
                case 2:
                    return second;
                case 3:
                    return pace;
                case 4:
                    return delay;
                case 6:
                    return bit(listens);
                case 7:
                    return bit(remote);
                case 8:
                    return bit(locked);
                default:
                    return BAD;
            }
        }

        int tellState(int what, int now) {
            switch (what) {
                case 9:
                    return status;
                case 10:
                    return bit(asks);
                case 11:
                    return line;
                case 12:
                    return line == NONE ? NONE : sense;
                case 13:
                    return triggers;
                case 14:
                    return due == NONE ? NONE : due - now;
                case 15:
                    return out.size;
                case 16:
                    return in.size;
                case 17:
                    return named;
                default:
                    return BAD;
            }
        }
    }
}
