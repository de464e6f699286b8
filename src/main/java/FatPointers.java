import java.util.Arrays;

/** Pointers that carry bounds in few bits, on a machine that is told as a text. */
public final class FatPointers {
    public static final int NONE = -1;
    public static final long NOTHING = -1000000000000000L;

    private static final int ADDRESSES = 4096;
    private static final int POINTERS = 16;
    private static final int SHELVES = 4;
    private static final int PLACES = 4;
    private static final int OBJECTS = 32;
    private static final int HEAP = 16;
    private static final int MOST_MEMORY = 1024;
    private static final int TAPE = 1600;
    private static final int FEED = 20;
    private static final int STEP = 4095;
    private static final int TO_LOAD = 1;
    private static final int TO_STORE = 2;
    private static final int TO_SEAL = 4;

    private final byte[] tape = new byte[TAPE];
    private final int[] refused = new int[8];
    private final State now = new State();
    private final State draft = new State();
    private final History history = new History();
    private final Calculator calculator = new Calculator(now.pointers);
    private final Heap heap = new Heap(now, calculator);
    private final Sight sight = new Sight();
    private final Image image = new Image();
    private Machine machine = new Machine();
    private Machine spare = new Machine();
    private final Parser parser = new Parser(spare);
    private boolean running = false;
    private int tapeLength = 0;
    private int fault = 0;
    private int faultPlace = NONE;
    private long seed = 1;

    public FatPointers() {
    }

    // ---- the tape and the machine

    public int feed(int a, int b, int c, int d, int e) {
        if (tapeLength > TAPE - FEED) {
            return refuse(0);
        }
        put(a);
        put(b);
        put(c);
        put(d);
        put(e);
        return tapeLength;
    }

    private void put(int number) {
        for (int shift = 24; shift >= 0 && tapeLength < TAPE; shift -= 8) {
            tape[tapeLength] = (byte) (number >> shift);
            tapeLength++;
        }
    }

    public boolean end(int n) {
        if (n < 0 || n > tapeLength) {
            return deny(0);
        }
        tapeLength = n;
        return true;
    }

    public int machine() {
        boolean well = parser.readMachine(tape, takeTape(), spare);
        keepFault();
        if (!well) {
            return refuse(1);
        }
        Machine old = machine;
        machine = spare;
        spare = old;
        beginAnew();
        return machine.statements;
    }

    private int takeTape() {
        int length = tapeLength;
        tapeLength = 0;
        return length;
    }

    private void keepFault() {
        fault = parser.fault;
        faultPlace = parser.place;
    }

    private void beginAnew() {
        running = true;
        now.clear();
        Pointer whole = now.pointers[POINTERS - 1];
        whole.valid = true;
        whole.permits = TO_LOAD + TO_STORE + TO_SEAL;
        whole.carry(0, ADDRESSES, machine.mantissa);
        history.clear();
        sight.clear();
    }

    public int fault(int what) {
        switch (what) {
            case 0: return fault;
            case 1: return faultPlace;
            default: return NONE;
        }
    }

    // ---- what there is

    public int has(int what) {
        if (what < 0 || what > 10) {
            return NONE;
        }
        if (!running) {
            return 0;
        }
        switch (what) {
            case 0: return machine.memory;
            case 1: return machine.mantissa;
            case 2: return now.countValid();
            case 3: return now.objects;
            case 4: return now.bytesInObjects();
            case 5: return now.countHoles(machine.memory);
            case 6: return now.longestHole(machine.memory);
            case 7: return now.keptRows;
            case 8: return sight.rows;
            case 9: return history.count;
            default: return machine.shelves;
        }
    }

    public int letter(int shelf, int k) {
        if (!isShelf(shelf) || k < 0 || k >= Machine.NAME) {
            return NONE;
        }
        return machine.names[shelf * Machine.NAME + k];
    }

    public int pointer(int pointer, int what) {
        return isPointer(pointer) ? now.pointers[pointer].tell(what, machine.mantissa) : NONE;
    }

    public int shelf(int shelf, int place, int what) {
        if (!isPlace(shelf, place)) {
            return NONE;
        }
        Pointer lying = now.pointers[placeIndex(shelf, place)];
        return lying.there ? lying.tell(what, machine.mantissa) : NONE;
    }

    public int object(int k, int what) {
        if (!running || k < 0 || k >= now.objects) {
            return NONE;
        }
        switch (what) {
            case 0: return now.bases[k];
            case 1: return now.lengths[k];
            case 2: return now.asked[k];
            default: return NONE;
        }
    }

    public int hole(int k, int what) {
        int gap = running ? now.gapOfHole(k, machine.memory) : NONE;
        if (gap == NONE) {
            return NONE;
        }
        switch (what) {
            case 0: return now.gapStart(gap);
            case 1: return now.gapLength(gap, machine.memory);
            default: return NONE;
        }
    }

    public int octetAt(int address) {
        return running && address >= 0 && address < machine.memory ? now.byteAt(address) : NONE;
    }

    public int kept(int k, int what) {
        if (k < 0 || k >= now.keptRows || what < 0 || what >= State.KEPT_WIDTH) {
            return NONE;
        }
        return now.keptRow[k * State.KEPT_WIDTH + what];
    }

    private boolean isPointer(int pointer) {
        return running && pointer >= 0 && pointer < POINTERS;
    }

    private boolean isShelf(int shelf) {
        return running && shelf >= 0 && shelf < machine.shelves;
    }

    private boolean isPlace(int shelf, int place) {
        return isShelf(shelf) && place >= 0 && place < PLACES;
    }

    private static int placeIndex(int shelf, int place) {
        return POINTERS + shelf * PLACES + place;
    }

    private static boolean isStep(int step) {
        return step >= -STEP && step <= STEP;
    }

    private static boolean areBounds(int base, int length) {
        return base >= 0 && base <= ADDRESSES && length >= 0 && length <= ADDRESSES - base;
    }

    // ---- bounds, steps

    public int rounds(int base, int length, int what) {
        if (!running || !areBounds(base, length)) {
            return NONE;
        }
        int exponent = Pointer.leastExponent(base, base + length, machine.mantissa);
        int from = Pointer.down(base, exponent);
        int to = Pointer.up(base + length, exponent);
        switch (what) {
            case 0: return exponent;
            case 1: return from;
            case 2: return to - from;
            case 3: return Pointer.staysAsAsked(base, length, machine.mantissa) ? 1 : 0;
            default: return NONE;
        }
    }

    public int exact(int base, int length) {
        if (!areBounds(base, length)) {
            return NONE;
        }
        for (int mantissa = Machine.LEAST_MANTISSA; mantissa <= Machine.MOST_MANTISSA; mantissa++) {
            if (Pointer.staysAsAsked(base, length, mantissa)) {
                return mantissa;
            }
        }
        return NONE;
    }

    public int fits(int pointer, int step) {
        if (!isPointer(pointer) || !isStep(step)) {
            return NONE;
        }
        return now.pointers[pointer].keepsBounds(step, machine.mantissa) ? 1 : 0;
    }

    public int quick(int pointer, int step) {
        if (!isPointer(pointer) || !isStep(step)) {
            return NONE;
        }
        return now.pointers[pointer].isQuick(step, machine.mantissa) ? 1 : 0;
    }

    public int window(int pointer, int what) {
        if (!isPointer(pointer)) {
            return NONE;
        }
        Pointer one = now.pointers[pointer];
        switch (what) {
            case 0: return one.windowSize(machine.mantissa);
            case 1: return one.countSlow(machine.mantissa);
            default: return NONE;
        }
    }

    public int reachers(int address) {
        if (!running || address < 0 || address >= ADDRESSES) {
            return NONE;
        }
        int bits = 0;
        for (int i = 0; i < POINTERS; i++) {
            Pointer one = now.pointers[i];
            if (one.isUsable() && one.covers(address, machine.mantissa)) {
                bits |= 1 << i;
            }
        }
        return bits;
    }

    // ---- the heap

    public int room(int n) {
        return running && heap.search(machine, n) ? heap.base : NONE;
    }

    public int odds() {
        if (!running) {
            return NONE;
        }
        int found = 0;
        for (int n = 1; n <= 100; n++) {
            if (heap.search(machine, n)) {
                found++;
            }
        }
        return found;
    }

    public int share(int what) {
        if (!running || what < 0 || what > 1) {
            return NONE;
        }
        int used = now.bytesInObjects();
        int part = what == 0 ? used : used - now.bytesAsked();
        int whole = what == 0 ? machine.memory - HEAP : used;
        return whole <= 0 ? 0 : 100 * part / whole;
    }

    // ---- where it was

    public int see() {
        int length = takeTape();
        if (!running || !sight.look(tape, length)) {
            return refuse(1);
        }
        return sight.rows;
    }

    public int places(int pointer, int k) {
        if (!isPointer(pointer)) {
            return NONE;
        }
        sight.aim(now.pointers[pointer], machine.mantissa);
        return k == NONE ? sight.countPlaces() : sight.placeNumber(k);
    }

    public int tells(int pointer, int what) {
        if (!isPointer(pointer) || what < 0 || what > 1) {
            return NONE;
        }
        sight.aim(now.pointers[pointer], machine.mantissa);
        if (!sight.findTelling()) {
            return NONE;
        }
        return what == 0 ? sight.telling + Sight.MIDDLE : sight.left;
    }

    // ---- acts

    public int alloc(int pointer, int n) {
        if (!isPointer(pointer) || !heap.search(machine, n)) {
            return refuse(2);
        }
        history.keep(now);
        allocate(pointer, n);
        return heap.base;
    }

    private void allocate(int pointer, int n) {
        now.addObject(heap.gap, heap.base, heap.length, n);
        Pointer one = now.pointers[pointer];
        one.clear(true);
        one.valid = true;
        one.address = heap.base;
        one.permits = TO_LOAD + TO_STORE;
        one.carry(heap.base, heap.length, machine.mantissa);
    }

    public int free(int pointer) {
        int which = isPointer(pointer) ? objectOf(pointer) : NONE;
        if (which == NONE) {
            return refuse(2);
        }
        int length = now.lengths[which];
        history.keep(now);
        now.removeObject(which, machine.mantissa);
        return length;
    }

    private int objectOf(int pointer) {
        Pointer one = now.pointers[pointer];
        if (!one.isUsable()) {
            return NONE;
        }
        return now.objectWith(one.base(machine.mantissa), one.extent(machine.mantissa));
    }

    public boolean copy(int from, int to) {
        if (!isPointer(from) || !isPointer(to) || from == to) {
            return deny(3);
        }
        history.keep(now);
        now.pointers[to].become(now.pointers[from]);
        return true;
    }

    public boolean move(int pointer, int step) {
        if (!isPointer(pointer) || !isStep(step) || now.pointers[pointer].kind != 0) {
            return deny(3);
        }
        history.keep(now);
        Pointer one = now.pointers[pointer];
        boolean lost = one.valid && !one.keepsBounds(step, machine.mantissa);
        one.address = (one.address + step) & (ADDRESSES - 1);
        if (lost) {
            one.valid = false;
            now.note(2, pointer, one.address);
        }
        return one.valid;
    }

    public int narrow(int pointer, int to, int length) {
        if (!isPointer(pointer) || !isPointer(to)
                || !now.pointers[pointer].canNarrow(length, machine.mantissa)) {
            return refuse(3);
        }
        history.keep(now);
        Pointer narrowed = now.pointers[to];
        narrowed.become(now.pointers[pointer]);
        narrowed.carry(narrowed.address, length, machine.mantissa);
        return narrowed.extent(machine.mantissa);
    }

    public int limit(int pointer, int perms) {
        if (!isPointer(pointer) || perms < 0 || perms > 7 || now.pointers[pointer].kind != 0) {
            return refuse(3);
        }
        history.keep(now);
        now.pointers[pointer].permits &= perms;
        return now.pointers[pointer].permits;
    }

    public int seal(int pointer, int key) {
        int kind = kindOfKey(key);
        if (kind == NONE || !isPointer(pointer) || !now.pointers[pointer].isUsable()) {
            return refuse(4);
        }
        history.keep(now);
        now.pointers[pointer].kind = kind;
        return kind;
    }

    public boolean unseal(int pointer, int key) {
        int kind = kindOfKey(key);
        if (kind == NONE || !isPointer(pointer)) {
            return deny(4);
        }
        Pointer one = now.pointers[pointer];
        if (!one.valid || one.kind != kind) {
            return deny(4);
        }
        history.keep(now);
        one.kind = 0;
        return true;
    }

    private int kindOfKey(int key) {
        if (!isPointer(key)) {
            return NONE;
        }
        Pointer one = now.pointers[key];
        boolean opens = one.isUsable() && (one.permits & TO_SEAL) != 0
                && one.address >= 1 && one.address <= Machine.KINDS
                && one.covers(one.address, machine.mantissa);
        return opens ? one.address : NONE;
    }

    public int load(int pointer) {
        if (!canFollow(pointer, TO_LOAD)) {
            return refuse(5);
        }
        return now.byteAt(now.pointers[pointer].address);
    }

    public boolean store(int pointer, int value) {
        if (value < 0 || value > 255 || !canFollow(pointer, TO_STORE)) {
            return deny(5);
        }
        history.keep(now);
        now.setByte(now.pointers[pointer].address, value);
        return true;
    }

    private boolean canFollow(int pointer, int permit) {
        if (!isPointer(pointer)) {
            return false;
        }
        Pointer one = now.pointers[pointer];
        return one.isUsable() && (one.permits & permit) != 0 && one.address < machine.memory
                && one.covers(one.address, machine.mantissa)
                && !calculator.isTrapped(machine, one);
    }

    public int shelve(int pointer, int shelf) {
        int place = isPointer(pointer) && isShelf(shelf) ? emptyPlace(shelf) : NONE;
        if (place == NONE) {
            return refuse(4);
        }
        Pointer one = now.pointers[pointer];
        if (!one.valid || one.kind != machine.kinds[shelf]) {
            return refuse(4);
        }
        history.keep(now);
        now.pointers[placeIndex(shelf, place)].become(one);
        return place;
    }

    private int emptyPlace(int shelf) {
        for (int place = 0; place < PLACES; place++) {
            if (!now.pointers[placeIndex(shelf, place)].there) {
                return place;
            }
        }
        return NONE;
    }

    public boolean take(int shelf, int place, int pointer) {
        if (!isPlace(shelf, place) || !isPointer(pointer)
                || !now.pointers[placeIndex(shelf, place)].there) {
            return deny(4);
        }
        history.keep(now);
        Pointer lying = now.pointers[placeIndex(shelf, place)];
        now.pointers[pointer].become(lying);
        lying.clear(false);
        return true;
    }

    public int chance(int n) {
        if (!running || n < 1 || n > 40) {
            return refuse(2);
        }
        history.keep(now);
        int done = 0;
        for (int i = 0; i < n; i++) {
            if (actBySeed()) {
                done++;
            }
        }
        return done;
    }

    private boolean actBySeed() {
        boolean frees = draw(3) == 2;
        int pointer = draw(POINTERS - 1);
        if (frees) {
            int which = objectOf(pointer);
            if (which != NONE) {
                now.removeObject(which, machine.mantissa);
            }
            return which != NONE;
        }
        int n = draw(16) + 1;
        boolean found = heap.search(machine, n);
        if (found) {
            allocate(pointer, n);
        }
        return found;
    }

    private int draw(int m) {
        seed = (1103515245L * seed + 12345L) & 0x7fffffffL;
        return m > 0 ? (int) ((seed >> 6) % m) : 0;
    }

    public boolean undo() {
        return history.goBack(now) || deny(6);
    }

    public boolean seed(int seed) {
        if (seed < 0) {
            return deny(7);
        }
        this.seed = seed;
        return true;
    }

    // ---- questions

    public long ask() {
        int length = takeTape();
        if (!running) {
            return NOTHING;
        }
        // The spare machine's code is free between two texts of machines.
        int asked = parser.readQuestion(tape, length, spare);
        keepFault();
        return asked == NONE ? NOTHING : answer(asked);
    }

    private long answer(int asked) {
        long total = 0;
        int most = 0;
        int least = 0;
        int often = 0;
        int first = NONE;
        int last = NONE;
        for (int i = 0; i < POINTERS; i++) {
            int value = calculator.askOf(spare, i, machine.mantissa);
            total += value;
            most = i == 0 ? value : Math.max(most, value);
            least = i == 0 ? value : Math.min(least, value);
            if (value != 0) {
                often++;
                last = i;
                first = first == NONE ? i : first;
            }
        }
        switch (asked) {
            case Words.FIRST: return first;
            case Words.LAST: return last;
            case Words.OFTEN: return often;
            case Words.TOTAL: return total;
            case Words.MOST: return most;
            default: return least;
        }
    }

    // ---- images, refusals

    public int image() {
        if (!running) {
            return NONE;
        }
        image.write(now, machine);
        return image.length;
    }

    public int octet(int k) {
        return k >= 0 && k < image.length ? image.bytes[k] & 255 : NONE;
    }

    public boolean on() {
        int length = takeTape();
        if (!running || !Image.read(tape, length, draft, machine)) {
            return deny(7);
        }
        now.become(draft);
        history.clear();
        return true;
    }

    public int status(int what) {
        return what >= 0 && what < refused.length ? refused[what] : NONE;
    }

    private int refuse(int what) {
        if (what >= 0 && what < refused.length) {
            refused[what]++;
        }
        return NONE;
    }

    private boolean deny(int what) {
        return refuse(what) != NONE;
    }

    /** Words are told by their numbers, so that formulas hold numbers alone. */
    private static final class Words {
        static final int MEMORY = 0;
        static final int MANTISSA = 1;
        static final int SHELF = 2;
        static final int KIND = 3;
        static final int PICKS = 4;
        static final int PADS = 5;
        static final int TRAPS = 6;
        static final int NEED = 7;
        static final int START = 8;
        static final int ROOM = 9;
        static final int AT = 10;
        static final int BASE = 11;
        static final int LENGTH = 12;
        static final int PERMS = 13;
        static final int NUMBER = 14;
        static final int EXP = 15;
        static final int VALID = 16;
        static final int FROM = 17;
        static final int FITS = 18;
        static final int OR = 19;
        static final int AND = 20;
        static final int NOT = 21;
        static final int ALL = 22;
        static final int MIN = 23;
        static final int MAX = 24;
        static final int FIRST = 25;
        static final int LAST = 26;
        static final int OFTEN = 27;
        static final int TOTAL = 28;
        static final int MOST = 29;
        static final int LEAST = 30;

        /** Words below this one are no names; those of questions may be. */
        static final int OWN = 25;
        private static final int COUNT = 31;
        private static final int WIDTH = 8;
        private static final String TABLE = "memory  mantissashelf   kind    picks   pads    traps   need    start   room    at      base    length  perms   number  exp     valid   from    fits    or      and     not     all     min     max     first   last    often   total   most    least   ";

        static int numberOf(byte[] text, int from, int length) {
            if (length > WIDTH || from < 0 || from + length > text.length) {
                return NONE;
            }
            for (int word = 0; word < COUNT; word++) {
                int same = 0;
                while (same < length && TABLE.charAt(word * WIDTH + same) == text[from + same]) {
                    same++;
                }
                boolean ends = same == WIDTH || TABLE.charAt(word * WIDTH + same) == ' ';
                if (same == length && ends) {
                    return word;
                }
            }
            return NONE;
        }
    }

    /** One token of a text at a time. */
    private static final class Scanner {
        static final int END = 0;
        static final int WORD = 1;
        static final int NUMBER = 2;
        static final int SIGN = 3;
        /** A word or a number without the blank that it needs ahead of it. */
        static final int STRAY = 4;
        private static final int BLANK = 5;
        private static final int DIGITS = 4;

        byte[] text = new byte[0];
        int length = 0;
        int kind = END;
        int start = 0;
        int behind = 0;
        int value = NONE;

        void begin(byte[] bytes, int count) {
            text = bytes;
            length = Math.min(count, bytes.length);
            kind = END;
            behind = 0;
            next();
        }

        void next() {
            boolean wasLong = kind == WORD || kind == NUMBER;
            start = behind;
            while (start < length && kindAt(start) == BLANK) {
                start++;
            }
            boolean sideBySide = wasLong && start == behind;
            kind = kindAt(start);
            boolean isLong = kind == WORD || kind == NUMBER;
            behind = Math.min(start + 1, length);
            while (isLong && behind < length && kindAt(behind) == kind) {
                behind++;
            }
            value = kind == WORD ? Words.numberOf(text, start, behind - start) : plainValue();
            if (sideBySide && isLong) {
                kind = STRAY;
            }
        }

        private int kindAt(int at) {
            if (at < 0 || at >= length) {
                return END;
            }
            int sign = text[at];
            if (sign == 10 || sign == 32) {
                return BLANK;
            }
            if (sign >= 'a' && sign <= 'z') {
                return WORD;
            }
            return sign >= '0' && sign <= '9' ? NUMBER : SIGN;
        }

        private int plainValue() {
            if (kind != NUMBER) {
                return start < length ? text[start] & 255 : NONE;
            }
            int number = 0;
            // What is longer is a fault: its value is never asked for and must not overflow.
            for (int i = start; i < behind && i < start + DIGITS; i++) {
                number = 10 * number + text[i] - '0';
            }
            return number;
        }

        boolean isTooLong() {
            return behind - start > DIGITS;
        }

        boolean isWord(int word) {
            return kind == WORD && value == word;
        }

        boolean isSign(int sign) {
            return kind == SIGN && value == sign;
        }
    }

    /** Reads machines and questions; formulas become code for a stack, operands first. */
    private static final class Parser {
        private static final int STATEMENTS = 40;
        private static final int OPEN = 6;
        private static final int IN_PICKS = 1 << Words.NEED | 1 << Words.START | 1 << Words.ROOM;
        private static final int IN_PADS = 1 << Words.NEED;
        private static final int IN_TRAPS =
                1 << Words.AT | 1 << Words.BASE | 1 << Words.LENGTH | 1 << Words.PERMS;
        private static final int IN_QUESTIONS = IN_TRAPS | 1 << Words.NUMBER | 1 << Words.EXP
                | 1 << Words.KIND | 1 << Words.VALID | 1 << Words.FROM | 1 << Words.FITS;

        int fault = 0;
        int place = NONE;
        private final Scanner scan = new Scanner();
        private Machine into;
        private int allowed = 0;

        Parser(Machine first) {
            into = first;
        }

        private void begin(byte[] text, int length, Machine target) {
            fault = 0;
            place = NONE;
            into = target;
            target.clear();
            scan.begin(text, length);
        }

        private boolean fail(int what, int where) {
            fault = what;
            place = where;
            return false;
        }

        boolean readMachine(byte[] text, int length, Machine target) {
            begin(text, length, target);
            for (int i = 0; i < STATEMENTS && scan.kind != Scanner.END; i++) {
                if (!statement(target) || !sign(';')) {
                    return false;
                }
                target.statements++;
            }
            if (scan.kind != Scanner.END) {
                return fail(5, scan.start);
            }
            return target.statements > 0 || fail(1, scan.start);
        }

        private boolean statement(Machine target) {
            if (target.statements == 0) {
                return memoryStatement(target);
            }
            int word = scan.kind == Scanner.WORD ? scan.value : NONE;
            switch (word) {
                case Words.SHELF: return shelfStatement(target);
                case Words.PICKS:
                    return begins(Machine.PICKS, IN_PICKS) && sum(0) && ends(Machine.PICKS);
                case Words.PADS:
                    return begins(Machine.PADS, IN_PADS) && sum(0) && ends(Machine.PADS);
                case Words.TRAPS:
                    return begins(Machine.TRAPS, IN_TRAPS) && test(0) && ends(Machine.TRAPS);
                default: return fail(1, scan.start);
            }
        }

        private boolean memoryStatement(Machine target) {
            if (!word(Words.MEMORY) || !number(Machine.LEAST_MEMORY, MOST_MEMORY)) {
                return false;
            }
            target.memory = scan.value;
            scan.next();
            if (!word(Words.MANTISSA)
                    || !number(Machine.LEAST_MANTISSA, Machine.MOST_MANTISSA)) {
                return false;
            }
            target.mantissa = scan.value;
            scan.next();
            return true;
        }

        private boolean shelfStatement(Machine target) {
            if (target.shelves >= SHELVES) {
                return fail(5, scan.start);
            }
            scan.next();
            if (!name(target) || !word(Words.KIND) || !number(1, Machine.KINDS)) {
                return false;
            }
            target.kinds[target.shelves] = scan.value;
            target.shelves++;
            scan.next();
            return true;
        }

        private boolean name(Machine target) {
            boolean own = scan.value >= 0 && scan.value < Words.OWN;
            if (scan.kind != Scanner.WORD || own) {
                return fail(1, scan.start);
            }
            int letters = scan.behind - scan.start;
            if (letters > Machine.NAME) {
                return fail(1, scan.start + Machine.NAME);
            }
            target.setName(target.shelves, scan.text, scan.start, letters);
            if (target.hasNameTwice(target.shelves)) {
                return fail(3, scan.start);
            }
            scan.next();
            return true;
        }

        private boolean begins(int formula, int words) {
            if (into.hasFormula(formula)) {
                return fail(5, scan.start);
            }
            scan.next();
            allowed = words;
            into.beginFormula(formula);
            return true;
        }

        private boolean ends(int formula) {
            into.endFormula(formula);
            return true;
        }

        int readQuestion(byte[] text, int length, Machine target) {
            begin(text, length, target);
            int asked = scan.kind == Scanner.WORD ? scan.value : NONE;
            if (asked < Words.FIRST) {
                fail(1, scan.start);
                return NONE;
            }
            boolean well = begins(Machine.QUESTION, IN_QUESTIONS)
                    && (asked <= Words.OFTEN ? test(0) : sum(0)) && ends(Machine.QUESTION);
            if (well && scan.kind != Scanner.END) {
                well = fail(1, scan.start);
            }
            return well ? asked : NONE;
        }

        private boolean word(int word) {
            if (!scan.isWord(word)) {
                return fail(1, scan.start);
            }
            scan.next();
            return true;
        }

        private boolean sign(int sign) {
            if (!scan.isSign(sign)) {
                return fail(1, scan.start);
            }
            scan.next();
            return true;
        }

        /** The number stays the token, so that its value can be taken. */
        private boolean number(int least, int most) {
            if (scan.kind != Scanner.NUMBER) {
                return fail(1, scan.start);
            }
            if (scan.isTooLong()) {
                return fail(1, scan.start + Scanner.DIGITS);
            }
            return (scan.value >= least && scan.value <= most) || fail(2, scan.start);
        }

        private boolean opening(int open) {
            if (open >= OPEN) {
                return fail(4, scan.start);
            }
            scan.next();
            return true;
        }

        private boolean test(int open) {
            if (!both(open)) {
                return false;
            }
            for (int i = 0; i < TAPE && scan.isWord(Words.OR); i++) {
                scan.next();
                if (!both(open)) {
                    return false;
                }
                into.addOperation(Words.OR);
            }
            return true;
        }

        private boolean both(int open) {
            if (!fact(open)) {
                return false;
            }
            for (int i = 0; i < TAPE && scan.isWord(Words.AND); i++) {
                scan.next();
                if (!fact(open)) {
                    return false;
                }
                into.addOperation(Words.AND);
            }
            return true;
        }

        private boolean fact(int open) {
            if (scan.isWord(Words.ALL)) {
                scan.next();
                into.addOperation(Words.ALL);
                return true;
            }
            if (scan.isWord(Words.NOT)) {
                if (!opening(open) || !fact(open + 1)) {
                    return false;
                }
                into.addOperation(Words.NOT);
                return true;
            }
            if (scan.isSign('[')) {
                return opening(open) && test(open + 1) && sign(']');
            }
            if (!sum(open)) {
                return false;
            }
            if (!scan.isSign('<') && !scan.isSign('>') && !scan.isSign('=')) {
                return fail(1, scan.start);
            }
            int operation = scan.value;
            scan.next();
            if (!sum(open)) {
                return false;
            }
            into.addOperation(operation);
            return true;
        }

        private boolean sum(int open) {
            if (!product(open)) {
                return false;
            }
            for (int i = 0; i < TAPE && (scan.isSign('+') || scan.isSign('-')); i++) {
                int operation = scan.value;
                scan.next();
                if (!product(open)) {
                    return false;
                }
                into.addOperation(operation);
            }
            return true;
        }

        private boolean product(int open) {
            if (!part(open)) {
                return false;
            }
            for (int i = 0; i < TAPE && (scan.isSign('*') || scan.isSign('/')); i++) {
                int operation = scan.value;
                scan.next();
                if (!part(open)) {
                    return false;
                }
                into.addOperation(operation);
            }
            return true;
        }

        private boolean part(int open) {
            if (scan.kind == Scanner.NUMBER) {
                if (!number(0, 9999)) {
                    return false;
                }
                into.addNumber(scan.value);
                scan.next();
                return true;
            }
            if (scan.isSign('(')) {
                return opening(open) && sum(open + 1) && sign(')');
            }
            if (scan.isWord(Words.MIN) || scan.isWord(Words.MAX)) {
                return pair(open);
            }
            return wordPart(open);
        }

        private boolean pair(int open) {
            int operation = scan.value;
            scan.next();
            if (!scan.isSign('(')) {
                return fail(1, scan.start);
            }
            if (!opening(open) || !sum(open + 1) || !sign(',') || !sum(open + 1) || !sign(')')) {
                return false;
            }
            into.addOperation(operation);
            return true;
        }

        private boolean wordPart(int open) {
            int operation = scan.kind == Scanner.WORD ? scan.value : NONE;
            if (operation < 0 || operation > Words.FITS || ((allowed >> operation) & 1) == 0) {
                return fail(1, scan.start);
            }
            if (operation < Words.FROM) {
                scan.next();
            } else if (!opening(open) || !part(open + 1)) {
                return false;
            }
            into.addOperation(operation);
            return true;
        }
    }

    /** What a text told. A formula is a stretch of code; an empty one was not told. */
    private static final class Machine {
        static final int LEAST_MEMORY = 64;
        static final int LEAST_MANTISSA = 4;
        static final int MOST_MANTISSA = 8;
        static final int KINDS = 7;
        static final int NAME = 6;
        static final int PICKS = 0;
        static final int PADS = 1;
        static final int TRAPS = 2;
        /** A question has the code for itself, so it may stand where picks stands else. */
        static final int QUESTION = 0;

        int statements = 0;
        int memory = 0;
        int mantissa = LEAST_MANTISSA;
        int shelves = 0;
        final byte[] names = new byte[SHELVES * NAME];
        final int[] kinds = new int[SHELVES];
        /** Each operation has a byte of the text of its own, so code is no longer than the tape. */
        final int[] code = new int[TAPE];
        final int[] from = new int[3];
        final int[] to = new int[3];
        private int used = 0;

        void clear() {
            statements = 0;
            shelves = 0;
            used = 0;
            Arrays.fill(names, (byte) 0);
            Arrays.fill(from, 0);
            Arrays.fill(to, 0);
        }

        void setName(int shelf, byte[] text, int start, int letters) {
            for (int i = 0; i < NAME && shelf < SHELVES; i++) {
                boolean inside = i < letters && start + i < text.length;
                names[shelf * NAME + i] = inside ? (byte) (text[start + i] - 'a' + 1) : 0;
            }
        }

        boolean hasNameTwice(int shelf) {
            for (int other = 0; other < shelf && shelf < SHELVES; other++) {
                int same = 0;
                while (same < NAME && names[other * NAME + same] == names[shelf * NAME + same]) {
                    same++;
                }
                if (same == NAME) {
                    return true;
                }
            }
            return false;
        }

        void addNumber(int number) {
            if (used < code.length) {
                code[used] = number;
                used++;
            }
        }

        /** Below 0, where no number of a text is. */
        void addOperation(int operation) {
            addNumber(-1 - operation);
        }

        void beginFormula(int which) {
            if (which >= 0 && which < from.length) {
                from[which] = used;
            }
        }

        void endFormula(int which) {
            if (which >= 0 && which < to.length) {
                to[which] = used;
            }
        }

        boolean hasFormula(int which) {
            return which >= 0 && which < to.length && to[which] > from[which];
        }
    }

    /** Works formulas out, for one hole, one length or one pointer at a time. */
    private static final class Calculator {
        private static final int LIMIT = 1000000;
        /** Six values may wait on each of the seven levels that a formula can have. */
        private static final int DEPTH = 64;

        private final Pointer[] pointers;
        private final int[] figures = new int[Words.VALID + 1];
        private final int[] stack = new int[DEPTH];
        private int depth = 0;
        private Pointer subject = null;
        private int mantissa = Machine.LEAST_MANTISSA;

        Calculator(Pointer[] pointers) {
            this.pointers = pointers;
        }

        int padding(Machine machine, int need) {
            if (!machine.hasFormula(Machine.PADS)) {
                return 0;
            }
            figures[Words.NEED] = need;
            return Math.max(0, Math.min(99, work(machine, Machine.PADS)));
        }

        int rank(Machine machine, int need, int start, int room) {
            if (!machine.hasFormula(Machine.PICKS)) {
                return start;
            }
            figures[Words.NEED] = need;
            figures[Words.START] = start;
            figures[Words.ROOM] = room;
            return work(machine, Machine.PICKS);
        }

        boolean isTrapped(Machine machine, Pointer pointer) {
            if (!machine.hasFormula(Machine.TRAPS)) {
                return false;
            }
            setBounds(pointer, machine.mantissa);
            return work(machine, Machine.TRAPS) != 0;
        }

        int askOf(Machine question, int number, int bits) {
            if (number < 0 || number >= pointers.length) {
                return 0;
            }
            subject = pointers[number];
            setBounds(subject, bits);
            figures[Words.NUMBER] = number;
            figures[Words.EXP] = subject.exponent;
            figures[Words.KIND] = subject.kind;
            figures[Words.VALID] = subject.valid ? 1 : 0;
            return work(question, Machine.QUESTION);
        }

        private void setBounds(Pointer pointer, int bits) {
            mantissa = bits;
            figures[Words.AT] = pointer.address;
            figures[Words.BASE] = pointer.base(bits);
            figures[Words.LENGTH] = pointer.extent(bits);
            figures[Words.PERMS] = pointer.permits;
        }

        private int work(Machine machine, int which) {
            depth = 0;
            int end = Math.min(machine.to[which], machine.code.length);
            for (int i = machine.from[which]; i < end; i++) {
                int code = machine.code[i];
                int operation = -1 - code;
                if (code >= 0) {
                    push(code);
                } else if (operation < figures.length) {
                    push(figures[operation]);
                } else if (operation == Words.ALL) {
                    push(1);
                } else if (operation == Words.NOT || operation < Words.OR) {
                    push(ofOne(operation, pop()));
                } else {
                    int right = pop();
                    push(ofTwo(operation, pop(), right));
                }
            }
            return pop();
        }

        private void push(int value) {
            if (depth < stack.length) {
                stack[depth] = value;
                depth++;
            }
        }

        private int pop() {
            if (depth <= 0) {
                return 0;
            }
            depth--;
            return stack[depth];
        }

        private int ofOne(int operation, int value) {
            if (operation == Words.NOT) {
                return 1 - value;
            }
            if (operation == Words.FROM) {
                return value >= 0 && value < POINTERS ? pointers[value].base(mantissa) : 0;
            }
            boolean keeps = subject != null && isStep(value)
                    && subject.keepsBounds(value, mantissa);
            return keeps ? 1 : 0;
        }

        private static int ofTwo(int operation, int left, int right) {
            switch (operation) {
                case Words.OR: return left | right;
                case Words.AND: return left & right;
                case Words.MIN: return Math.min(left, right);
                case Words.MAX: return Math.max(left, right);
                case '<': return left < right ? 1 : 0;
                case '>': return left > right ? 1 : 0;
                case '=': return left == right ? 1 : 0;
                case '+': return clamp((long) left + right);
                case '-': return clamp((long) left - right);
                case '*': return clamp((long) left * right);
                default: return right == 0 ? 0 : Math.floorDiv(left, right);
            }
        }

        private static int clamp(long value) {
            return (int) Math.max(-LIMIT, Math.min(LIMIT, value));
        }
    }

    /** A pointer, or what lies on a place of a shelf. */
    private static final class Pointer {
        /** With this many bits, exponent and mantissa together, half a window is all addresses. */
        static final int BITS = 13;

        /** Only a place of a shelf can have nothing there. */
        boolean there = true;
        boolean valid = false;
        int address = 0;
        int exponent = 0;
        int bottom = 0;
        int top = 0;
        int permits = 0;
        int kind = 0;

        void clear(boolean isThere) {
            there = isThere;
            valid = false;
            address = 0;
            exponent = 0;
            bottom = 0;
            top = 0;
            permits = 0;
            kind = 0;
        }

        void become(Pointer other) {
            there = other.there;
            valid = other.valid;
            address = other.address;
            exponent = other.exponent;
            bottom = other.bottom;
            top = other.top;
            permits = other.permits;
            kind = other.kind;
        }

        static int leastExponent(int base, int top, int mantissa) {
            int most = BITS - mantissa;
            for (int exponent = 0; exponent < most; exponent++) {
                int reach = up(top, exponent) - down(base, exponent);
                if (reach >> exponent <= 1 << (mantissa - 1)) {
                    return exponent;
                }
            }
            return most;
        }

        static int down(int address, int exponent) {
            return (address >> exponent) << exponent;
        }

        static int up(int address, int exponent) {
            return down(address + (1 << exponent) - 1, exponent);
        }

        static boolean staysAsAsked(int base, int length, int mantissa) {
            int exponent = leastExponent(base, base + length, mantissa);
            return down(base, exponent) == base && up(base + length, exponent) == base + length;
        }

        void carry(int base, int length, int mantissa) {
            int mask = (1 << mantissa) - 1;
            exponent = leastExponent(base, base + length, mantissa);
            bottom = (down(base, exponent) >> exponent) & mask;
            top = (up(base + length, exponent) >> exponent) & mask;
        }

        int base(int mantissa) {
            return baseFrom(address, mantissa);
        }

        private int baseFrom(int from, int mantissa) {
            int mask = (1 << mantissa) - 1;
            int middle = (from >> exponent) & mask;
            int edge = (bottom - (1 << (mantissa - 2))) & mask;
            int correction = (bottom < edge ? 1 : 0) - (middle < edge ? 1 : 0);
            int window = exponent + mantissa;
            int begin = ((from >> window) + correction) << window;
            return (begin + (bottom << exponent)) & (ADDRESSES - 1);
        }

        int extent(int mantissa) {
            return ((top - bottom) & ((1 << mantissa) - 1)) << exponent;
        }

        boolean isUsable() {
            return valid && kind == 0;
        }

        boolean covers(int place, int mantissa) {
            int base = base(mantissa);
            return place >= base && place < base + extent(mantissa);
        }

        boolean keepsBounds(int step, int mantissa) {
            int then = (address + step) & (ADDRESSES - 1);
            return baseFrom(then, mantissa) == baseFrom(address, mantissa);
        }

        boolean isQuick(int step, int mantissa) {
            int mask = (1 << mantissa) - 1;
            int windows = step >> (exponent + mantissa);
            int units = (step >> exponent) & mask;
            int edge = bottom - (1 << (mantissa - 2));
            int distance = (edge - (address >> exponent)) & mask;
            if (windows == 0) {
                return units < distance - 1;
            }
            return windows == -1 && units >= distance && distance != 0;
        }

        /** From all these addresses on, and no others, the bounds are decoded as they are. */
        int windowSize(int mantissa) {
            return Math.min(ADDRESSES, 1 << (exponent + mantissa));
        }

        int windowStart(int mantissa) {
            return (base(mantissa) - (1 << (exponent + mantissa - 2))) & (ADDRESSES - 1);
        }

        int countSlow(int mantissa) {
            int slow = 0;
            for (int step = -Sight.MIDDLE; step < Sight.MIDDLE; step++) {
                if (keepsBounds(step, mantissa) && !isQuick(step, mantissa)) {
                    slow++;
                }
            }
            return slow;
        }

        boolean canNarrow(int length, int mantissa) {
            if (!isUsable() || length < 0 || length > ADDRESSES - address) {
                return false;
            }
            int finest = leastExponent(address, address + length, mantissa);
            int base = base(mantissa);
            return down(address, finest) >= base
                    && up(address + length, finest) <= base + extent(mantissa);
        }

        int tell(int what, int mantissa) {
            switch (what) {
                case 0: return valid ? 1 : 0;
                case 1: return address;
                case 2: return base(mantissa);
                case 3: return extent(mantissa);
                case 4: return exponent;
                case 5: return bottom;
                case 6: return top;
                case 7: return permits;
                case 8: return kind;
                default: return NONE;
            }
        }
    }

    /** All that acts change, so that one copy is enough to undo one. */
    private static final class State {
        static final int KEPT = 40;
        static final int KEPT_WIDTH = 3;
        private static final int CELLS = POINTERS + SHELVES * PLACES;

        /** The pointers, then the places of the shelves. */
        final Pointer[] pointers = new Pointer[CELLS];
        final int[] bases = new int[OBJECTS];
        final int[] lengths = new int[OBJECTS];
        final int[] asked = new int[OBJECTS];
        final int[] keptRow = new int[KEPT * KEPT_WIDTH];
        /** Four bytes in each, as room is dear in the copies. */
        private final int[] memory = new int[MOST_MEMORY / 4];
        int objects = 0;
        int keptRows = 0;

        State() {
            for (int i = 0; i < CELLS; i++) {
                pointers[i] = new Pointer();
            }
        }

        void clear() {
            for (int i = 0; i < CELLS; i++) {
                pointers[i].clear(i < POINTERS);
            }
            Arrays.fill(memory, 0);
            objects = 0;
            keptRows = 0;
        }

        void become(State other) {
            for (int i = 0; i < CELLS; i++) {
                pointers[i].become(other.pointers[i]);
            }
            System.arraycopy(other.bases, 0, bases, 0, OBJECTS);
            System.arraycopy(other.lengths, 0, lengths, 0, OBJECTS);
            System.arraycopy(other.asked, 0, asked, 0, OBJECTS);
            System.arraycopy(other.keptRow, 0, keptRow, 0, keptRow.length);
            System.arraycopy(other.memory, 0, memory, 0, memory.length);
            objects = other.objects;
            keptRows = other.keptRows;
        }

        int countValid() {
            int valid = 0;
            for (int i = 0; i < POINTERS; i++) {
                if (pointers[i].valid) {
                    valid++;
                }
            }
            return valid;
        }

        int byteAt(int address) {
            if (address < 0 || address >= MOST_MEMORY) {
                return NONE;
            }
            return (memory[address >> 2] >> (8 * (address & 3))) & 255;
        }

        void setByte(int address, int value) {
            if (address < 0 || address >= MOST_MEMORY) {
                return;
            }
            int shift = 8 * (address & 3);
            int others = memory[address >> 2] & ~(255 << shift);
            memory[address >> 2] = others | (value & 255) << shift;
        }

        void note(int which, int first, int second) {
            if (keptRows >= KEPT) {
                System.arraycopy(keptRow, KEPT_WIDTH, keptRow, 0, (KEPT - 1) * KEPT_WIDTH);
                keptRows = KEPT - 1;
            }
            keptRow[keptRows * KEPT_WIDTH] = which;
            keptRow[keptRows * KEPT_WIDTH + 1] = first;
            keptRow[keptRows * KEPT_WIDTH + 2] = second;
            keptRows++;
        }

        int bytesInObjects() {
            int sum = 0;
            for (int i = 0; i < objects; i++) {
                sum += lengths[i];
            }
            return sum;
        }

        int bytesAsked() {
            int sum = 0;
            for (int i = 0; i < objects; i++) {
                sum += asked[i];
            }
            return sum;
        }

        int objectWith(int base, int length) {
            for (int i = 0; i < objects; i++) {
                if (bases[i] == base && lengths[i] == length) {
                    return i;
                }
            }
            return NONE;
        }

        /** Where the object ahead of a gap ends; a gap is ahead of each object and behind the last. */
        int gapStart(int gap) {
            return gap >= 1 && gap <= objects ? bases[gap - 1] + lengths[gap - 1] : HEAP;
        }

        int gapLength(int gap, int size) {
            int end = gap >= 0 && gap < objects ? bases[gap] : size;
            return end - gapStart(gap);
        }

        int gapOfHole(int k, int size) {
            int holes = 0;
            for (int gap = 0; gap <= objects; gap++) {
                if (gapLength(gap, size) > 0) {
                    if (holes == k) {
                        return gap;
                    }
                    holes++;
                }
            }
            return NONE;
        }

        int countHoles(int size) {
            int holes = 0;
            for (int gap = 0; gap <= objects; gap++) {
                if (gapLength(gap, size) > 0) {
                    holes++;
                }
            }
            return holes;
        }

        int longestHole(int size) {
            int longest = 0;
            for (int gap = 0; gap <= objects; gap++) {
                longest = Math.max(longest, gapLength(gap, size));
            }
            return longest;
        }

        void addObject(int gap, int base, int length, int n) {
            if (objects >= OBJECTS || gap < 0 || gap > objects) {
                return;
            }
            System.arraycopy(bases, gap, bases, gap + 1, objects - gap);
            System.arraycopy(lengths, gap, lengths, gap + 1, objects - gap);
            System.arraycopy(asked, gap, asked, gap + 1, objects - gap);
            objects++;
            bases[gap] = base;
            lengths[gap] = length;
            asked[gap] = n;
            note(0, base, length);
        }

        void removeObject(int which, int mantissa) {
            if (which < 0 || which >= objects) {
                return;
            }
            int base = bases[which];
            int length = lengths[which];
            objects--;
            System.arraycopy(bases, which + 1, bases, which, objects - which);
            System.arraycopy(lengths, which + 1, lengths, which, objects - which);
            System.arraycopy(asked, which + 1, asked, which, objects - which);
            for (int i = 0; i < length; i++) {
                setByte(base + i, 0);
            }
            for (int i = 0; i < CELLS; i++) {
                int begin = pointers[i].base(mantissa);
                if (begin >= base && begin < base + length) {
                    pointers[i].valid = false;
                }
            }
            note(1, base, length);
        }
    }

    /** Finds where bytes would be allocated, without allocating them. */
    private static final class Heap {
        private static final int MOST = 1024;

        int gap = NONE;
        int base = NONE;
        int length = 0;
        private final State state;
        private final Calculator calculator;

        Heap(State state, Calculator calculator) {
            this.state = state;
            this.calculator = calculator;
        }

        boolean search(Machine machine, int n) {
            gap = NONE;
            if (n < 1 || n > MOST || state.objects >= OBJECTS) {
                return false;
            }
            int padded = n + calculator.padding(machine, n);
            int exponent = Pointer.leastExponent(0, padded, machine.mantissa);
            length = Pointer.up(padded, exponent);
            int least = 0;
            for (int i = 0; i <= state.objects; i++) {
                int start = state.gapStart(i);
                int size = state.gapLength(i, machine.memory);
                int first = Pointer.up(start, exponent);
                if (first + length <= start + size) {
                    int rank = calculator.rank(machine, length, start, size);
                    if (gap == NONE || rank < least) {
                        gap = i;
                        base = first;
                        least = rank;
                    }
                }
            }
            return gap != NONE;
        }
    }

    /** The states ahead of the latest acts, the oldest giving way to the newest. */
    private static final class History {
        private static final int DEPTH = 20;

        int count = 0;
        private int next = 0;
        private final State[] past = new State[DEPTH];

        void clear() {
            count = 0;
        }

        void keep(State now) {
            // Made when first needed: most of their room would be idle in an object that acts little.
            if (past[next] == null) {
                past[next] = new State();
            }
            past[next].become(now);
            next = next + 1 < DEPTH ? next + 1 : 0;
            count = Math.min(DEPTH, count + 1);
        }

        boolean goBack(State now) {
            int latest = next > 0 ? next - 1 : DEPTH - 1;
            if (count == 0 || past[latest] == null) {
                return false;
            }
            now.become(past[latest]);
            next = latest;
            count--;
            return true;
        }
    }

    /** What is seen, and from which addresses a pointer would show just that. */
    private static final class Sight {
        static final int MIDDLE = 64;
        private static final int ROWS = 16;

        int rows = 0;
        int telling = 0;
        int left = 0;
        private final int[] steps = new int[ROWS];
        private final boolean[] fitting = new boolean[ROWS];
        private int start = 0;
        private int size = 0;

        void clear() {
            rows = 0;
        }

        boolean look(byte[] tape, int length) {
            if (length < 2 || length > 2 * ROWS || length > tape.length || (length & 1) != 0) {
                return false;
            }
            for (int i = 0; i < length; i += 2) {
                if (tape[i] < 0 || tape[i + 1] < 0 || tape[i + 1] > 1) {
                    return false;
                }
            }
            rows = length / 2;
            for (int i = 0; i < rows; i++) {
                steps[i] = tape[2 * i] - MIDDLE;
                fitting[i] = tape[2 * i + 1] == 1;
            }
            return true;
        }

        void aim(Pointer pointer, int mantissa) {
            start = pointer.windowStart(mantissa);
            size = pointer.windowSize(mantissa);
        }

        private boolean isInside(int address) {
            return ((address - start) & (ADDRESSES - 1)) < size;
        }

        private boolean isPlace(int address) {
            if (!isInside(address)) {
                return false;
            }
            for (int i = 0; i < rows; i++) {
                if (isInside(address + steps[i]) != fitting[i]) {
                    return false;
                }
            }
            return true;
        }

        int countPlaces() {
            int found = 0;
            for (int address = 0; address < ADDRESSES; address++) {
                if (isPlace(address)) {
                    found++;
                }
            }
            return found;
        }

        int placeNumber(int k) {
            int found = 0;
            for (int address = 0; address < ADDRESSES && k >= 0; address++) {
                if (isPlace(address)) {
                    if (found == k) {
                        return address;
                    }
                    found++;
                }
            }
            return NONE;
        }

        /** A step loses the places at one end of the window, one more than the next shorter step. */
        boolean findTelling() {
            int all = countPlaces();
            left = all + 1;
            int lost = 0;
            for (int back = 1; back <= MIDDLE; back++) {
                lost += placesAt(back - 1);
                int most = Math.max(lost, all - lost);
                // The longer step back is the earlier one, so it wins among like ones.
                if (most <= left) {
                    left = most;
                    telling = -back;
                }
            }
            lost = 0;
            for (int ahead = 0; ahead < MIDDLE; ahead++) {
                lost += placesAt(size - ahead);
                int most = Math.max(lost, all - lost);
                if (most < left) {
                    left = most;
                    telling = ahead;
                }
            }
            return all > 0;
        }

        private int placesAt(int offset) {
            // A window of all addresses has no ends.
            if (offset < 0 || offset >= size || size == ADDRESSES) {
                return 0;
            }
            return isPlace((start + offset) & (ADDRESSES - 1)) ? 1 : 0;
        }
    }

    /** The bytes of the latest image, and the reading of one. */
    private static final class Image {
        private static final int CELL = 8;
        private static final int ROW = 6;
        private static final int EMPTY = 255;

        final byte[] bytes = new byte[CELL * State.CELLS + ROW * OBJECTS + 2];
        int length = 0;

        private void add(int value) {
            if (length < bytes.length) {
                bytes[length] = (byte) value;
                length++;
            }
        }

        private void addTwo(int value) {
            add(value >> 8);
            add(value);
        }

        void write(State state, Machine machine) {
            length = 0;
            for (int i = 0; i < cells(machine); i++) {
                writeCell(state.pointers[i]);
            }
            add(state.objects);
            for (int i = 0; i < state.objects; i++) {
                addTwo(state.bases[i]);
                addTwo(state.lengths[i]);
                addTwo(state.asked[i]);
            }
            add(check(bytes, length));
        }

        private void writeCell(Pointer cell) {
            if (!cell.there) {
                for (int i = 0; i < CELL; i++) {
                    add(EMPTY);
                }
                return;
            }
            add(cell.valid ? 1 : 0);
            addTwo(cell.address);
            add(cell.exponent);
            add(cell.bottom);
            add(cell.top);
            add(cell.permits);
            add(cell.kind);
        }

        private static int cells(Machine machine) {
            return Math.min(State.CELLS, POINTERS + PLACES * machine.shelves);
        }

        private static int check(byte[] from, int count) {
            int sum = 149;
            for (int i = 0; i < count && i < from.length; i++) {
                sum = (3 * sum + (from[i] & 255)) % 251;
            }
            return sum;
        }

        static boolean read(byte[] from, int count, State into, Machine machine) {
            int cells = cells(machine);
            if (count < CELL * cells + 2 || count > from.length) {
                return false;
            }
            int objects = from[CELL * cells] & 255;
            if (objects > OBJECTS || count != CELL * cells + ROW * objects + 2
                    || check(from, count - 1) != (from[count - 1] & 255)) {
                return false;
            }
            into.clear();
            for (int i = 0; i < cells; i++) {
                int shelf = i < POINTERS ? NONE : (i - POINTERS) / PLACES;
                if (!readCell(from, CELL * i, into.pointers[i], shelf, machine)) {
                    return false;
                }
            }
            for (int i = 0; i < objects; i++) {
                if (!readObject(from, CELL * cells + 1 + ROW * i, into, machine)) {
                    return false;
                }
            }
            return true;
        }

        private static boolean readCell(byte[] from, int at, Pointer cell, int shelf,
                Machine machine) {
            if (shelf != NONE && isEmpty(from, at)) {
                return true;
            }
            cell.there = true;
            cell.valid = numberAt(from, at) == 1;
            cell.address = twoAt(from, at + 1);
            cell.exponent = numberAt(from, at + 3);
            cell.bottom = numberAt(from, at + 4);
            cell.top = numberAt(from, at + 5);
            cell.permits = numberAt(from, at + 6);
            cell.kind = numberAt(from, at + 7);
            boolean rightKind = shelf < 0 || shelf >= SHELVES
                    || cell.kind == machine.kinds[shelf];
            return numberAt(from, at) <= 1 && canBe(cell, machine.mantissa) && rightKind;
        }

        private static boolean canBe(Pointer cell, int mantissa) {
            int wide = 1 << mantissa;
            return cell.address < ADDRESSES && cell.exponent <= Pointer.BITS - mantissa
                    && cell.bottom < wide && cell.top < wide
                    && ((cell.top - cell.bottom) & (wide - 1)) <= wide / 2
                    && cell.permits <= 7 && cell.kind <= Machine.KINDS;
        }

        private static boolean isEmpty(byte[] from, int at) {
            for (int i = 0; i < CELL; i++) {
                if (numberAt(from, at + i) != EMPTY) {
                    return false;
                }
            }
            return true;
        }

        private static boolean readObject(byte[] from, int at, State into, Machine machine) {
            int base = twoAt(from, at);
            int length = twoAt(from, at + 2);
            int asked = twoAt(from, at + 4);
            // Behind the one ahead, it is in none and they rise.
            int least = into.gapStart(into.objects);
            if (base < least || base + length > machine.memory || asked < 1 || asked > length
                    || !Pointer.staysAsAsked(base, length, machine.mantissa)) {
                return false;
            }
            into.bases[into.objects] = base;
            into.lengths[into.objects] = length;
            into.asked[into.objects] = asked;
            into.objects++;
            return true;
        }

        private static int numberAt(byte[] from, int at) {
            return at >= 0 && at < from.length ? from[at] & 255 : EMPTY;
        }

        private static int twoAt(byte[] from, int at) {
            return 256 * numberAt(from, at) + numberAt(from, at + 1);
        }
    }
}
