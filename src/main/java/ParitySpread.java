import java.util.NoSuchElementException;

/** Parity spread over disks by block designs. The words in capitals are those of the document. */
public final class ParitySpread {
    public static final int NONE = -1;

    /** The answer of those calls for which NONE already tells something else. */
    private static final int OTHERS = -2;

    private static final int MAX_SIGNS = 1000;
    private static final int MAX_WORD = 8;
    private static final int MAX_DIGITS = 4;
    private static final int MIN_DISKS = 2;
    private static final int MAX_DISKS = 13;
    private static final int MAX_BLOCKS = 6;
    private static final int MAX_STRIPES = 40;
    private static final int MAX_LINES = 40;
    private static final int MAX_MANY = 40;
    private static final int MAX_SEEN = 8;
    private static final int MAX_MORE = 3;
    private static final int MAX_SEED = 9999;
    private static final int MAX_DRAWN = 99;
    private static final int MAX_BYTE = 255;
    private static final int MAX_SPEED = 9;
    private static final int PLAIN_SPEED = 4;
    private static final int MARKS = 2;

    /** UNITS of a STRIPE at most, and so how far apart two STRIPES are in the rows that go by UNITS. */
    private static final int WIDTH = 5;
    private static final int MIN_SIZE = 2;
    private static final int MAX_UNITS = MAX_STRIPES * WIDTH;
    private static final int MAX_DATA = MAX_STRIPES * (WIDTH - 1);

    private static final int HOME = 0;
    private static final int AWAY = 1;
    private static final int LOST = 2;

    private static final int FAULT_STRAY = 1;
    private static final int FAULT_AGAIN = 3;
    private static final int FAULT_NUMBER = 4;
    private static final int FAULT_MANY = 5;

    private static final int TOKEN_END = 0;
    private static final int TOKEN_STRAY = 1;
    private static final int TOKEN_WORD = 2;
    private static final int TOKEN_NUMBER = 3;
    private static final int TOKEN_SIGN = 4;

    private static final int KIND_ONCE = 0;
    private static final int KIND_CYCLE = 1;
    private static final int KIND_MIRROR = 2;
    private static final int KIND_TWICE = 3;

    private static final int DO_READ = 0;
    private static final int DO_WRITE = 1;
    private static final int DO_LOSE = 2;
    private static final int DO_REPLACE = 3;
    private static final int DO_REBUILD = 4;
    private static final int DO_HOME = 5;

    /** A LAW's codes are below 0, so that a NUMBER stands in it as itself. */
    private static final int CODE_NONE = -1;
    private static final int CODE_STRIPE = -2;
    private static final int CODE_SIZE = -3;
    private static final int CODE_FIRST = -4;
    private static final int CODE_WHICH = -5;
    private static final int CODE_NOT = -6;
    private static final int CODE_AND = -7;
    private static final int CODE_OR = -8;
    private static final int CODE_LESS = -9;
    private static final int CODE_SAME = -10;
    private static final int CODE_PLUS = -11;
    private static final int CODE_MINUS = -12;
    private static final int CODE_TIMES = -13;

    /** How tight an operator binds: E is of TESTS, TEST of SUMS, SUM of PRODUCTS, PRODUCT of PARTS. */
    private static final int LEVEL_E = 0;
    private static final int LEVEL_TEST = 1;
    private static final int LEVEL_SUM = 2;
    private static final int LEVEL_PRODUCT = 3;
    private static final int LEVEL_PART = 4;

    /** So many of not and ( ) may not be round a PART. */
    private static final int MAX_ROUND = 5;

    /** Each of the at most five E within one another leaves at most four values open, one a level. */
    private static final int MAX_OPEN = LEVEL_PART * MAX_ROUND + 4;

    private final Tape tape = new Tape();
    /** What is read goes into the second of each pair, which takes the first one's part without a FAULT. */
    private Told told = new Told();
    private Told nextTold = new Told();
    private final ArrayReader arrayReader = new ArrayReader(tape, nextTold);
    private Work lines = new Work(tape);
    private Work nextLines = new Work(tape);
    private final Layout layout = new Layout();
    private final Layout grown = new Layout();
    private final State state = new State(layout);
    private final State trial = new State(layout);
    private final State[] marks = {new State(layout), new State(layout)};
    private final boolean[] laid = new boolean[MARKS];
    private final Outlook outlook = new Outlook(state, layout);

    public ParitySpread() {
    }

    public int feed(long a, long b, long c) {
        tape.append(a);
        tape.append(b);
        tape.append(c);
        return tape.length;
    }

    public int array() {
        int fault = arrayReader.fill(nextTold);
        tape.length = 0;
        if (fault != 0) {
            return fault;
        }
        Told before = told;
        told = nextTold;
        nextTold = before;
        layout.build(told, told.disks);
        lines.length = 0;
        state.begin();
        for (int i = 0; i < MARKS; i++) {
            laid[i] = false;
        }
        return 0;
    }

    public int work() {
        int fault = nextLines.fill(layout.data, layout.disks);
        tape.length = 0;
        if (fault != 0) {
            return fault;
        }
        Work before = lines;
        lines = nextLines;
        nextLines = before;
        return 0;
    }

    public int stripe(int stripe, int what) {
        if (!isStripe(stripe)) {
            return OTHERS;
        }
        switch (what) {
            case 0: return layout.size[stripe];
            case 1: return layout.parity[stripe];
            case 2: return layout.spare[stripe];
            case 3: return layout.block[stripe];
            case 4: return state.lostBits(stripe);
            case 5: return state.awayUnit(stripe);
            default: return OTHERS;
        }
    }

    public int unit(int stripe, int unit, int what) {
        if (!isStripe(stripe) || unit < 0 || unit >= layout.size[stripe]) {
            return OTHERS;
        }
        int x = stripe * WIDTH + unit;
        switch (what) {
            case 0: return layout.diskOf[x];
            case 1: return layout.placeOf[x];
            case 2: return state.where[x];
            case 3: return state.where[x] == LOST && state.isDead(stripe) ? NONE : state.byteOf(x);
            case 4: return layout.datumOf[x];
            default: return OTHERS;
        }
    }

    public int datum(int datum, int what) {
        if (!isDatum(datum)) {
            return OTHERS;
        }
        int x = layout.unitOf[datum];
        switch (what) {
            case 0: return x / WIDTH;
            case 1: return x % WIDTH;
            case 2: return state.diskNow(x);
            case 3: return state.placeNow(x);
            default: return OTHERS;
        }
    }

    public int at(int disk, int place) {
        return isDisk(disk) ? layout.heldAt(disk, place) : NONE;
    }

    public int disk(int disk, int what) {
        if (!isDisk(disk)) {
            return NONE;
        }
        switch (what) {
            case 0: return state.isUp(disk) ? 1 : 0;
            case 1: return layout.unitsOn[disk];
            case 2: return layout.paritiesOn[disk];
            case 3: return layout.sparesOn[disk];
            case 4: return state.loadOn[disk];
            case 5: return state.unitsNow(disk);
            default: return NONE;
        }
    }

    public int read(int datum) {
        return isDatum(datum) && state.readDatum(datum) ? state.byteOf(layout.unitOf[datum]) : NONE;
    }

    public int write(int datum, int value) {
        return isDatum(datum) && value >= 0 && value <= MAX_BYTE ? state.writeDatum(datum, value) : NONE;
    }

    public int lose(int disk) {
        return isDisk(disk) ? state.loseDisk(disk) : NONE;
    }

    public boolean replace(int disk) {
        return isDisk(disk) && state.replaceDisk(disk);
    }

    public int rebuild(int many) {
        return many >= 1 && many <= MAX_MANY ? state.rebuildUnits(many) : NONE;
    }

    public int home(int many) {
        return many >= 1 && many <= MAX_MANY ? state.bringHome(many) : NONE;
    }

    public int judged(int what) {
        if (what < 0 || what > 2) {
            return OTHERS;
        }
        trial.begin();
        int first = NONE;
        for (int i = 0; i < lines.length; i++) {
            boolean can = trial.perform(lines.verb[i], lines.object[i], lines.value[i]);
            if (!can && first == NONE) {
                first = i;
            }
        }
        return what == 0 ? first : what == 1 ? trial.allLoads() : trial.deadStripes();
    }

    public int pairs(int disk, int other) {
        return isDisk(disk) && isDisk(other) && disk != other ? layout.shared(disk, other) : NONE;
    }

    public int even() {
        return layout.sharedByAny();
    }

    public int worst(int disk) {
        return isDisk(disk) ? layout.mostShared(disk) : NONE;
    }

    public int spread(int what) {
        if (layout.disks == 0) {
            return NONE;
        }
        switch (what) {
            case 0: return spreadOf(layout.unitsOn, layout.disks);
            case 1: return spreadOf(layout.paritiesOn, layout.disks);
            case 2: return spreadOf(layout.sparesOn, layout.disks);
            default: return NONE;
        }
    }

    public int differs(int block, int by) {
        boolean asked = block >= 0 && block < told.blocks && by >= 1 && by < told.disks;
        return asked ? Differences.ofSet(told.bitsOf(block), by, told.disks) : NONE;
    }

    public int family() {
        return Differences.ofFamily(told);
    }

    public int seek(int size) {
        return size >= MIN_SIZE && size <= WIDTH ? Differences.firstAlike(size, told.disks) : NONE;
    }

    public int cost(int datum) {
        return isDatum(datum) ? state.costOf(layout.unitOf[datum]) : NONE;
    }

    public int price(int datum) {
        return isDatum(datum) ? state.priceOf(layout.unitOf[datum]) : NONE;
    }

    public int would(int disk, int other) {
        return isUpDisk(disk) && isUpDisk(other) && disk != other ? outlook.readsFrom(other, disk) : NONE;
    }

    public int time(int disk, int readers) {
        boolean asked = isUpDisk(disk) && readers >= 0 && readers < told.pace();
        return asked ? outlook.ticks(disk, told.pace() - readers) : NONE;
    }

    public boolean bears(int disk) {
        return isUpDisk(disk) && !outlook.kills(1 << disk);
    }

    public int risk() {
        return outlook.deadlyPairs();
    }

    public int grow(int more, int what) {
        if (layout.disks == 0 || more < 1 || more > MAX_MORE || what < 0 || what > 1) {
            return NONE;
        }
        int disks = layout.disks + more;
        if (disks > MAX_DISKS || !grown.build(told, disks)) {
            return NONE;
        }
        return what == 0 ? layout.movedIn(grown) : layout.allUnits() * more / disks;
    }

    public int lost(int i) throws NoSuchElementException {
        int x = i < 0 ? NONE : state.lostAt(i);
        if (x == NONE) {
            throw new NoSuchElementException("not so many UNITS are LOST");
        }
        return x / WIDTH * 8 + x % WIDTH;
    }

    public boolean see(int datum, boolean dearer) {
        return isDatum(datum) && state.addSeen(datum, dearer);
    }

    public int who() {
        return outlook.suspects();
    }

    public int ask() {
        return outlook.bestQuestion();
    }

    public int loads(int seed, int many, int what) {
        boolean asked = seed >= 0 && seed <= MAX_SEED && many >= 1 && many <= MAX_DRAWN;
        if (!asked || what < 0 || what > 2) {
            return NONE;
        }
        trial.copy(state);
        if (layout.data > 0) {
            performDrawn(new Draws(seed), many);
        }
        switch (what) {
            case 0: return trial.allLoads() - state.allLoads();
            case 1: return trial.deadStripes();
            default: return spreadOf(trial.loadOn, layout.disks);
        }
    }

    public boolean mark(int mark, boolean back) {
        if (mark < 0 || mark >= MARKS || (back && !laid[mark])) {
            return false;
        }
        if (back) {
            state.copy(marks[mark]);
        } else {
            marks[mark].copy(state);
            laid[mark] = true;
        }
        return true;
    }

    public int count(int what) {
        switch (what) {
            case 0: return layout.disks;
            case 1: return told.blocks;
            case 2: return layout.stripes;
            case 3: return layout.data;
            case 4: return state.up;
            case 5: return state.unitsThat(LOST);
            case 6: return state.unitsThat(AWAY);
            case 7: return state.deadStripes();
            case 8: return state.allLoads();
            case 9: return told.pace();
            case 10: return lines.length;
            case 11: return state.seen;
            case 12: return tape.length;
            default: return NONE;
        }
    }

    private boolean isStripe(int stripe) {
        return stripe >= 0 && stripe < layout.stripes;
    }

    private boolean isDatum(int datum) {
        return datum >= 0 && datum < layout.data;
    }

    private boolean isDisk(int disk) {
        return disk >= 0 && disk < layout.disks;
    }

    private boolean isUpDisk(int disk) {
        return isDisk(disk) && state.isUp(disk);
    }

    private void performDrawn(Draws draws, int many) {
        for (int i = 0; i < many; i++) {
            int kind = draws.below(8);
            if (kind <= 4) {
                int datum = draws.below(layout.data);
                int value = draws.below(MAX_BYTE + 1);
                trial.perform(kind <= 2 ? DO_READ : DO_WRITE, datum, value);
            } else if (kind <= 6) {
                trial.perform(kind == 5 ? DO_LOSE : DO_REPLACE, draws.below(layout.disks), 0);
            } else {
                trial.perform(DO_REBUILD, draws.below(4) + 1, 0);
            }
        }
    }

    /** By how much the greatest of the first so many is above the least; 0 of none. */
    private static int spreadOf(int[] row, int many) {
        if (many < 1 || many > row.length) {
            return 0;
        }
        int most = row[0];
        int fewest = row[0];
        for (int i = 1; i < many; i++) {
            most = Math.max(most, row[i]);
            fewest = Math.min(fewest, row[i]);
        }
        return most - fewest;
    }

    /** The TAPE, the token in hand, and the first FAULT found. */
    private static final class Tape {
        final char[] signs = new char[MAX_SIGNS];
        int length;
        int token;
        int place;
        int end;
        int number;
        int fault;

        void append(long bytes) {
            for (int shift = 56; shift >= 0; shift -= 8) {
                int sign = (int) (bytes >>> shift) & 255;
                boolean fits = sign == 10 || (sign >= 32 && sign <= 126);
                if (fits && length < MAX_SIGNS) {
                    signs[length] = (char) sign;
                    length++;
                }
            }
        }

        void rewind() {
            fault = 0;
            end = 0;
            advance();
        }

        void advance() {
            int i = end;
            while (i < length && (signs[i] == 10 || signs[i] == 32)) {
                i++;
            }
            place = i;
            number = 0;
            if (i >= length) {
                token = TOKEN_END;
                end = length;
            } else if (signs[i] >= 'a' && signs[i] <= 'z') {
                end = endOfRun('a', 'z');
                token = end - place <= MAX_WORD ? TOKEN_WORD : TOKEN_STRAY;
            } else if (signs[i] >= '0' && signs[i] <= '9') {
                end = endOfRun('0', '9');
                token = end - place <= MAX_DIGITS ? TOKEN_NUMBER : TOKEN_STRAY;
                readNumber();
            } else {
                end = i + 1;
                token = "()<=+-*;".indexOf(signs[i]) >= 0 ? TOKEN_SIGN : TOKEN_STRAY;
            }
        }

        private int endOfRun(char from, char to) {
            int i = place;
            while (i < length && signs[i] >= from && signs[i] <= to) {
                i++;
            }
            return i;
        }

        private void readNumber() {
            for (int i = place; i < end && token == TOKEN_NUMBER; i++) {
                number = number * 10 + signs[i] - '0';
            }
        }

        boolean isWord(String word) {
            if (token != TOKEN_WORD || end - place != word.length()) {
                return false;
            }
            for (int i = 0; i < word.length(); i++) {
                if (signs[place + i] != word.charAt(i)) {
                    return false;
                }
            }
            return true;
        }

        boolean isSign(char sign) {
            return token == TOKEN_SIGN && signs[place] == sign;
        }

        /** The token in hand is wrong; only the first that is counts. */
        void fail(int kind) {
            if (fault == 0) {
                fault = kind + 16 * place;
            }
        }

        /** The sign in hand must be this one; it is passed. */
        void pass(char sign) {
            if (fault != 0) {
                return;
            }
            if (isSign(sign)) {
                advance();
            } else {
                fail(FAULT_STRAY);
            }
        }

        /** The NUMBER in hand, which is passed; 0 with a FAULT. */
        int numberWithin(int low, int high) {
            if (fault != 0) {
                return 0;
            }
            if (token != TOKEN_NUMBER) {
                fail(FAULT_STRAY);
                return 0;
            }
            if (number < low || number > high) {
                fail(FAULT_NUMBER);
                return 0;
            }
            int value = number;
            advance();
            return value;
        }
    }

    /** The E of parity, its operators behind what they join; empty where none was told. */
    private static final class Law {
        final int[] codes = new int[MAX_SIGNS];
        int length;
        private final int[] open = new int[MAX_OPEN];
        private int top;

        void add(int code) {
            if (length < codes.length) {
                codes[length] = code;
                length++;
            }
        }

        /** Which UNIT of a STRIPE is its PARITY. */
        int parityOf(int stripe, int size, int first, int block) {
            if (size < 1) {
                return 0;
            }
            top = 0;
            for (int i = 0; i < length; i++) {
                switch (codes[i]) {
                    case CODE_STRIPE: push(stripe); break;
                    case CODE_SIZE: push(size); break;
                    case CODE_FIRST: push(first); break;
                    case CODE_WHICH: push(block); break;
                    case CODE_NOT: push(pop() == 0 ? 1 : 0); break;
                    default: pushOther(codes[i]);
                }
            }
            return Math.floorMod(length == 0 ? stripe : pop(), size);
        }

        private void pushOther(int code) {
            if (code >= 0) {
                push(code);
            } else {
                int right = pop();
                int left = pop();
                push(joined(code, left, right));
            }
        }

        private static int joined(int code, int left, int right) {
            switch (code) {
                case CODE_AND: return left != 0 && right != 0 ? 1 : 0;
                case CODE_OR: return left != 0 || right != 0 ? 1 : 0;
                case CODE_LESS: return left < right ? 1 : 0;
                case CODE_SAME: return left == right ? 1 : 0;
                case CODE_PLUS: return left + right;
                case CODE_MINUS: return left - right;
                default: return left * right;
            }
        }

        private void push(int value) {
            if (top < open.length) {
                open[top] = value;
                top++;
            }
        }

        private int pop() {
            if (top < 1) {
                return 0;
            }
            top--;
            return open[top];
        }
    }

    /** What the text of an ARRAY told. */
    private static final class Told {
        int disks;
        /** 0 where none was told. */
        int speed;
        int blocks;
        final int[] kind = new int[MAX_BLOCKS];
        final int[] size = new int[MAX_BLOCKS];
        final int[] member = new int[MAX_BLOCKS * WIDTH];
        final Law law = new Law();

        void clear() {
            disks = 0;
            speed = 0;
            blocks = 0;
            law.length = 0;
        }

        int pace() {
            return speed == 0 ? PLAIN_SPEED : speed;
        }

        /** The DISKS of a block. */
        int bitsOf(int block) {
            int bits = 0;
            for (int i = 0; i < size[block]; i++) {
                bits |= 1 << member[block * WIDTH + i];
            }
            return bits;
        }

        int stripesOf(int block, int among) {
            switch (kind[block]) {
                case KIND_ONCE: return 1;
                case KIND_CYCLE: return among;
                default: return 2;
            }
        }

        /** Of so many blocks from the first on. */
        int stripesOfAll(int many, int among) {
            int stripes = 0;
            for (int block = 0; block < many; block++) {
                stripes += stripesOf(block, among);
            }
            return stripes;
        }

        /** The DISK of a UNIT in the s-th STRIPE of a block. */
        int diskIn(int block, int unit, int s, int among) {
            int disk = member[block * WIDTH + unit];
            if (kind[block] == KIND_CYCLE && among > 0) {
                return (disk + s) % among;
            }
            return kind[block] == KIND_MIRROR && s == 1 ? among - 1 - disk : disk;
        }
    }

    /** Reads the TAPE as an ARRAY. */
    private static final class ArrayReader {
        private final Tape tape;
        private Told told;

        /** The first target is given here, so that there is one at all times. */
        ArrayReader(Tape tape, Told told) {
            this.tape = tape;
            this.told = told;
        }

        /** The FAULT, or 0. */
        int fill(Told target) {
            told = target;
            told.clear();
            tape.rewind();
            for (int i = 0; i < MAX_SIGNS && tape.fault == 0 && tape.token != TOKEN_END; i++) {
                if (tape.isWord("disks")) {
                    disksLine();
                } else if (tape.isWord("block")) {
                    blockLine();
                } else if (tape.isWord("parity")) {
                    parityLine();
                } else if (tape.isWord("speed")) {
                    speedLine();
                } else {
                    tape.fail(FAULT_STRAY);
                }
            }
            return tape.fault;
        }

        private void disksLine() {
            if (told.disks != 0) {
                tape.fail(FAULT_AGAIN);
                return;
            }
            tape.advance();
            told.disks = tape.numberWithin(MIN_DISKS, MAX_DISKS);
            tape.pass(';');
        }

        private void speedLine() {
            if (told.speed != 0) {
                tape.fail(FAULT_AGAIN);
                return;
            }
            tape.advance();
            told.speed = tape.numberWithin(1, MAX_SPEED);
            tape.pass(';');
        }

        private void parityLine() {
            if (told.law.length != 0) {
                tape.fail(FAULT_AGAIN);
                return;
            }
            tape.advance();
            chain(LEVEL_E, 0);
            tape.pass(';');
        }

        private void blockLine() {
            if (told.blocks >= MAX_BLOCKS) {
                tape.fail(FAULT_MANY);
                return;
            }
            tape.advance();
            int kind = kindInHand();
            if (kind == NONE) {
                tape.fail(FAULT_STRAY);
                return;
            }
            tape.advance();
            told.kind[told.blocks] = kind;
            told.size[told.blocks] = 0;
            for (int i = 0; i <= WIDTH && tape.fault == 0 && tape.token == TOKEN_NUMBER; i++) {
                blockDisk();
            }
            closeBlock();
        }

        private int kindInHand() {
            if (tape.isWord("once")) {
                return KIND_ONCE;
            }
            if (tape.isWord("cycle")) {
                return KIND_CYCLE;
            }
            if (tape.isWord("mirror")) {
                return KIND_MIRROR;
            }
            return tape.isWord("twice") ? KIND_TWICE : NONE;
        }

        private void blockDisk() {
            int block = told.blocks;
            int size = told.size[block];
            if (tape.number >= told.disks) {
                tape.fail(FAULT_NUMBER);
            } else if ((told.bitsOf(block) >> tape.number & 1) != 0) {
                tape.fail(FAULT_AGAIN);
            } else if (size >= WIDTH) {
                tape.fail(FAULT_MANY);
            } else {
                told.member[block * WIDTH + size] = tape.number;
                told.size[block] = size + 1;
                tape.advance();
            }
        }

        private void closeBlock() {
            if (tape.fault != 0) {
                return;
            }
            if (told.size[told.blocks] < MIN_SIZE || !tape.isSign(';')) {
                tape.fail(FAULT_STRAY);
            } else if (told.stripesOfAll(told.blocks + 1, told.disks) > MAX_STRIPES) {
                tape.fail(FAULT_MANY);
            } else {
                told.blocks++;
                tape.advance();
            }
        }

        /** An E, a TEST, a SUM, a PRODUCT, by its level, within so many of not and ( ). */
        private void chain(int level, int round) {
            if (level >= LEVEL_PART) {
                part(round);
                return;
            }
            chain(level + 1, round);
            int most = level == LEVEL_TEST ? 1 : MAX_SIGNS;
            for (int i = 0; i < most && tape.fault == 0; i++) {
                int code = operatorInHand(level);
                if (code == CODE_NONE) {
                    return;
                }
                tape.advance();
                chain(level + 1, round);
                told.law.add(code);
            }
        }

        private int operatorInHand(int level) {
            switch (level) {
                case LEVEL_E: return tape.isWord("and") ? CODE_AND : tape.isWord("or") ? CODE_OR : CODE_NONE;
                case LEVEL_TEST: return tape.isSign('<') ? CODE_LESS : tape.isSign('=') ? CODE_SAME : CODE_NONE;
                case LEVEL_SUM: return tape.isSign('+') ? CODE_PLUS : tape.isSign('-') ? CODE_MINUS : CODE_NONE;
                default: return tape.isSign('*') ? CODE_TIMES : CODE_NONE;
            }
        }

        private void part(int round) {
            if (tape.fault != 0) {
                return;
            }
            int code = leafInHand();
            boolean not = tape.isWord("not");
            if (code == CODE_NONE && !not && !tape.isSign('(')) {
                tape.fail(FAULT_STRAY);
            } else if (round >= MAX_ROUND) {
                tape.fail(FAULT_MANY);
            } else if (not) {
                tape.advance();
                part(round + 1);
                told.law.add(CODE_NOT);
            } else if (code == CODE_NONE) {
                tape.advance();
                chain(LEVEL_E, round + 1);
                tape.pass(')');
            } else {
                told.law.add(code);
                tape.advance();
            }
        }

        private int leafInHand() {
            if (tape.token == TOKEN_NUMBER) {
                return tape.number;
            }
            if (tape.isWord("stripe")) {
                return CODE_STRIPE;
            }
            if (tape.isWord("size")) {
                return CODE_SIZE;
            }
            if (tape.isWord("first")) {
                return CODE_FIRST;
            }
            return tape.isWord("which") ? CODE_WHICH : CODE_NONE;
        }
    }

    /** The lines of a WORK. */
    private static final class Work {
        private final Tape tape;
        final int[] verb = new int[MAX_LINES];
        final int[] object = new int[MAX_LINES];
        final int[] value = new int[MAX_LINES];
        int length;

        Work(Tape tape) {
            this.tape = tape;
        }

        /** The TAPE is read: the FAULT, or 0. */
        int fill(int data, int disks) {
            length = 0;
            tape.rewind();
            for (int i = 0; i < MAX_SIGNS && tape.fault == 0 && tape.token != TOKEN_END; i++) {
                int verbHere = verbInHand();
                if (verbHere == NONE) {
                    tape.fail(FAULT_STRAY);
                } else if (length >= MAX_LINES) {
                    tape.fail(FAULT_MANY);
                } else {
                    addLine(verbHere, data, disks);
                }
            }
            return tape.fault;
        }

        private void addLine(int verbHere, int data, int disks) {
            tape.advance();
            verb[length] = verbHere;
            object[length] = objectOf(verbHere, data, disks);
            value[length] = verbHere == DO_WRITE ? tape.numberWithin(0, MAX_BYTE) : 0;
            tape.pass(';');
            length++;
        }

        private int objectOf(int verbHere, int data, int disks) {
            switch (verbHere) {
                case DO_READ:
                case DO_WRITE: return tape.numberWithin(0, data - 1);
                case DO_LOSE:
                case DO_REPLACE: return tape.numberWithin(0, disks - 1);
                default: return tape.numberWithin(1, MAX_MANY);
            }
        }

        private int verbInHand() {
            if (tape.isWord("read")) {
                return DO_READ;
            }
            if (tape.isWord("write")) {
                return DO_WRITE;
            }
            if (tape.isWord("lose")) {
                return DO_LOSE;
            }
            if (tape.isWord("replace")) {
                return DO_REPLACE;
            }
            if (tape.isWord("rebuild")) {
                return DO_REBUILD;
            }
            return tape.isWord("home") ? DO_HOME : NONE;
        }
    }

    /** Where all STRIPES, UNITS, DATA and SPARES are. A UNIT goes by WIDTH * its STRIPE + its number there. */
    private static final class Layout {
        int disks;
        int stripes;
        int data;
        final int[] size = new int[MAX_STRIPES];
        final int[] parity = new int[MAX_STRIPES];
        final int[] block = new int[MAX_STRIPES];
        final int[] spare = new int[MAX_STRIPES];
        final int[] sparePlace = new int[MAX_STRIPES];
        /** The DISKS on which a STRIPE has UNITS. */
        final int[] bits = new int[MAX_STRIPES];
        final int[] diskOf = new int[MAX_UNITS];
        final int[] placeOf = new int[MAX_UNITS];
        final int[] datumOf = new int[MAX_UNITS];
        final int[] unitOf = new int[MAX_DATA];
        final int[] unitsOn = new int[MAX_DISKS];
        final int[] paritiesOn = new int[MAX_DISKS];
        final int[] sparesOn = new int[MAX_DISKS];

        /** False, and half made, if there would be too many STRIPES. */
        boolean build(Told told, int among) {
            clear(among);
            if (told.stripesOfAll(told.blocks, among) > MAX_STRIPES) {
                return false;
            }
            for (int b = 0; b < told.blocks; b++) {
                int many = told.stripesOf(b, among);
                for (int s = 0; s < many; s++) {
                    addStripe(told, b, s);
                }
            }
            for (int stripe = 0; stripe < stripes; stripe++) {
                addSpare(stripe);
            }
            return true;
        }

        private void clear(int among) {
            disks = among;
            stripes = 0;
            data = 0;
            for (int i = 0; i < MAX_DISKS; i++) {
                unitsOn[i] = 0;
                paritiesOn[i] = 0;
                sparesOn[i] = 0;
            }
        }

        private void addStripe(Told told, int b, int s) {
            int stripe = stripes;
            stripes++;
            block[stripe] = b;
            size[stripe] = told.size[b];
            bits[stripe] = 0;
            int start = stripe * WIDTH;
            for (int unit = 0; unit < size[stripe]; unit++) {
                int disk = told.diskIn(b, unit, s, disks);
                diskOf[start + unit] = disk;
                placeOf[start + unit] = unitsOn[disk];
                unitsOn[disk]++;
                bits[stripe] |= 1 << disk;
            }
            parity[stripe] = told.law.parityOf(stripe, size[stripe], diskOf[start], b);
            paritiesOn[diskOf[start + parity[stripe]]]++;
            numberData(stripe);
        }

        private void numberData(int stripe) {
            for (int unit = 0; unit < size[stripe]; unit++) {
                int x = stripe * WIDTH + unit;
                datumOf[x] = NONE;
                if (unit != parity[stripe]) {
                    datumOf[x] = data;
                    unitOf[data] = x;
                    data++;
                }
            }
        }

        /** All UNITS must be placed by then: SPARES are behind them. */
        private void addSpare(int stripe) {
            int best = NONE;
            for (int disk = 0; disk < disks; disk++) {
                boolean free = (bits[stripe] >> disk & 1) == 0;
                if (free && (best == NONE || sparesOn[disk] < sparesOn[best])) {
                    best = disk;
                }
            }
            spare[stripe] = best;
            sparePlace[stripe] = NONE;
            if (best != NONE) {
                sparePlace[stripe] = unitsOn[best] + sparesOn[best];
                sparesOn[best]++;
            }
        }

        int allUnits() {
            int units = 0;
            for (int stripe = 0; stripe < stripes; stripe++) {
                units += size[stripe];
            }
            return units;
        }

        /** 8 * the STRIPE + the UNIT, or 7 for the SPARE. */
        int heldAt(int disk, int place) {
            for (int stripe = 0; stripe < stripes; stripe++) {
                if (spare[stripe] == disk && sparePlace[stripe] == place) {
                    return stripe * 8 + 7;
                }
                for (int unit = 0; unit < size[stripe]; unit++) {
                    int x = stripe * WIDTH + unit;
                    if (diskOf[x] == disk && placeOf[x] == place) {
                        return stripe * 8 + unit;
                    }
                }
            }
            return NONE;
        }

        int shared(int disk, int other) {
            int both = 1 << disk | 1 << other;
            int many = 0;
            for (int stripe = 0; stripe < stripes; stripe++) {
                if ((bits[stripe] & both) == both) {
                    many++;
                }
            }
            return many;
        }

        int sharedByAny() {
            if (disks < 2) {
                return NONE;
            }
            int many = shared(0, 1);
            for (int disk = 0; disk < disks; disk++) {
                for (int other = disk + 1; other < disks; other++) {
                    if (shared(disk, other) != many) {
                        return NONE;
                    }
                }
            }
            return many;
        }

        int mostShared(int disk) {
            int most = 0;
            for (int other = 0; other < disks; other++) {
                if (other != disk) {
                    most = Math.max(most, shared(disk, other));
                }
            }
            return most;
        }

        int movedIn(Layout later) {
            int moved = 0;
            int both = Math.min(data, later.data);
            for (int datum = 0; datum < both; datum++) {
                int now = unitOf[datum];
                int then = later.unitOf[datum];
                if (diskOf[now] != later.diskOf[then] || placeOf[now] != later.placeOf[then]) {
                    moved++;
                }
            }
            return moved;
        }
    }

    /** All that a MARK holds, and what changes it. */
    private static final class State {
        private final Layout layout;
        int up;
        final int[] where = new int[MAX_UNITS];
        /** Of a PARITY nothing is kept: its byte comes of the DATA. */
        private final int[] value = new int[MAX_UNITS];
        final int[] loadOn = new int[MAX_DISKS];
        int seen;
        final int[] seenDatum = new int[MAX_SEEN];
        /** A bit for each that is SEEN. */
        int seenDearer;

        State(Layout layout) {
            this.layout = layout;
        }

        void begin() {
            up = (1 << layout.disks) - 1;
            seen = 0;
            seenDearer = 0;
            for (int i = 0; i < MAX_UNITS; i++) {
                where[i] = HOME;
                value[i] = 0;
            }
            for (int i = 0; i < MAX_DISKS; i++) {
                loadOn[i] = 0;
            }
        }

        void copy(State from) {
            up = from.up;
            seen = from.seen;
            seenDearer = from.seenDearer;
            System.arraycopy(from.where, 0, where, 0, MAX_UNITS);
            System.arraycopy(from.value, 0, value, 0, MAX_UNITS);
            System.arraycopy(from.loadOn, 0, loadOn, 0, MAX_DISKS);
            System.arraycopy(from.seenDatum, 0, seenDatum, 0, MAX_SEEN);
        }

        boolean isUp(int disk) {
            return disk >= 0 && (up >> disk & 1) != 0;
        }

        /** NONE: it is LOST. */
        int diskNow(int x) {
            if (where[x] == LOST) {
                return NONE;
            }
            return where[x] == HOME ? layout.diskOf[x] : layout.spare[x / WIDTH];
        }

        int placeNow(int x) {
            if (where[x] == LOST) {
                return NONE;
            }
            return where[x] == HOME ? layout.placeOf[x] : layout.sparePlace[x / WIDTH];
        }

        int lostBits(int stripe) {
            int lostOnes = 0;
            for (int unit = 0; unit < layout.size[stripe]; unit++) {
                if (where[stripe * WIDTH + unit] == LOST) {
                    lostOnes |= 1 << unit;
                }
            }
            return lostOnes;
        }

        int lostMany(int stripe) {
            return Integer.bitCount(lostBits(stripe));
        }

        boolean isDead(int stripe) {
            int lostOnes = lostBits(stripe);
            return (lostOnes & (lostOnes - 1)) != 0;
        }

        /** At most one UNIT of a STRIPE is AWAY; NONE: none is. */
        int awayUnit(int stripe) {
            for (int unit = 0; unit < layout.size[stripe]; unit++) {
                if (where[stripe * WIDTH + unit] == AWAY) {
                    return unit;
                }
            }
            return NONE;
        }

        /** The DISKS on which UNITS of a STRIPE are now: no DISK ever has two of them. */
        int disksNow(int stripe) {
            int disks = 0;
            for (int unit = 0; unit < layout.size[stripe]; unit++) {
                int disk = diskNow(stripe * WIDTH + unit);
                if (disk != NONE) {
                    disks |= 1 << disk;
                }
            }
            return disks;
        }

        int unitsNow(int disk) {
            int units = 0;
            for (int stripe = 0; stripe < layout.stripes; stripe++) {
                units += disksNow(stripe) >> disk & 1;
            }
            return units;
        }

        int byteOf(int x) {
            int stripe = x / WIDTH;
            if (x % WIDTH != layout.parity[stripe]) {
                return value[x];
            }
            int all = 0;
            for (int unit = 0; unit < layout.size[stripe]; unit++) {
                if (unit != layout.parity[stripe]) {
                    all ^= value[stripe * WIDTH + unit];
                }
            }
            return all;
        }

        int costOf(int x) {
            if (where[x] != LOST) {
                return 1;
            }
            return isDead(x / WIDTH) ? NONE : layout.size[x / WIDTH] - 1;
        }

        int priceOf(int x) {
            int stripe = x / WIDTH;
            if (isDead(stripe)) {
                return NONE;
            }
            if (where[x] == LOST) {
                return layout.size[stripe] - 1;
            }
            return where[stripe * WIDTH + layout.parity[stripe]] == LOST ? 1 : 4;
        }

        private void load(int x, int times) {
            int disk = diskNow(x);
            if (disk != NONE) {
                loadOn[disk] += times;
            }
        }

        /** One LOAD for each UNIT of the STRIPE that is there: one that is LOST takes none. */
        private void loadThere(int stripe) {
            for (int unit = 0; unit < layout.size[stripe]; unit++) {
                load(stripe * WIDTH + unit, 1);
            }
        }

        boolean readDatum(int datum) {
            int x = layout.unitOf[datum];
            if (costOf(x) == NONE) {
                return false;
            }
            if (where[x] == LOST) {
                loadThere(x / WIDTH);
            } else {
                load(x, 1);
            }
            return true;
        }

        int writeDatum(int datum, int newValue) {
            int x = layout.unitOf[datum];
            int stripe = x / WIDTH;
            int price = priceOf(x);
            if (price == NONE) {
                return NONE;
            }
            int parityUnit = stripe * WIDTH + layout.parity[stripe];
            if (where[x] == LOST) {
                // the other DATA are read once, the PARITY is written once
                loadThere(stripe);
            } else if (where[parityUnit] == LOST) {
                load(x, 1);
            } else {
                load(x, 2);
                load(parityUnit, 2);
            }
            value[x] = newValue;
            return price;
        }

        int loseDisk(int disk) {
            if (!isUp(disk)) {
                return NONE;
            }
            int units = 0;
            for (int stripe = 0; stripe < layout.stripes; stripe++) {
                for (int unit = 0; unit < layout.size[stripe]; unit++) {
                    if (diskNow(stripe * WIDTH + unit) == disk) {
                        where[stripe * WIDTH + unit] = LOST;
                        units++;
                    }
                }
            }
            up &= ~(1 << disk);
            return units;
        }

        boolean replaceDisk(int disk) {
            if (isUp(disk)) {
                return false;
            }
            up |= 1 << disk;
            return true;
        }

        int rebuildUnits(int many) {
            int done = 0;
            for (int stripe = 0; stripe < layout.stripes && done < many; stripe++) {
                int x = onlyLost(stripe);
                int to = x == NONE ? LOST : rebuiltTo(x);
                if (to != LOST) {
                    where[x] = to;
                    // the others are read, it is written
                    loadThere(stripe);
                    done++;
                }
            }
            return done;
        }

        /** NONE: none is LOST, or more than one is. */
        private int onlyLost(int stripe) {
            int lostOnes = lostBits(stripe);
            for (int unit = 0; unit < WIDTH; unit++) {
                if (lostOnes == 1 << unit) {
                    return stripe * WIDTH + unit;
                }
            }
            return NONE;
        }

        /** LOST: there is no place for it. */
        private int rebuiltTo(int x) {
            if (isUp(layout.diskOf[x])) {
                return HOME;
            }
            int stripe = x / WIDTH;
            return isUp(layout.spare[stripe]) && awayUnit(stripe) == NONE ? AWAY : LOST;
        }

        int bringHome(int many) {
            int done = 0;
            for (int stripe = 0; stripe < layout.stripes && done < many; stripe++) {
                int unit = awayUnit(stripe);
                if (unit != NONE && isUp(layout.diskOf[stripe * WIDTH + unit])) {
                    int x = stripe * WIDTH + unit;
                    load(x, 1);
                    where[x] = HOME;
                    load(x, 1);
                    done++;
                }
            }
            return done;
        }

        /** Whether it could be. */
        boolean perform(int verb, int object, int newValue) {
            switch (verb) {
                case DO_READ: return readDatum(object);
                case DO_WRITE: return writeDatum(object, newValue) != NONE;
                case DO_LOSE: return loseDisk(object) != NONE;
                case DO_REPLACE: return replaceDisk(object);
                case DO_REBUILD: rebuildUnits(object); return true;
                default: bringHome(object); return true;
            }
        }

        int unitsThat(int are) {
            int units = 0;
            for (int stripe = 0; stripe < layout.stripes; stripe++) {
                for (int unit = 0; unit < layout.size[stripe]; unit++) {
                    if (where[stripe * WIDTH + unit] == are) {
                        units++;
                    }
                }
            }
            return units;
        }

        /** The i-th UNIT that is LOST; NONE: there are not so many. */
        int lostAt(int i) {
            int ahead = 0;
            for (int stripe = 0; stripe < layout.stripes; stripe++) {
                for (int unit = 0; unit < layout.size[stripe]; unit++) {
                    if (where[stripe * WIDTH + unit] == LOST) {
                        if (ahead == i) {
                            return stripe * WIDTH + unit;
                        }
                        ahead++;
                    }
                }
            }
            return NONE;
        }

        int deadStripes() {
            int many = 0;
            for (int stripe = 0; stripe < layout.stripes; stripe++) {
                if (isDead(stripe)) {
                    many++;
                }
            }
            return many;
        }

        int allLoads() {
            int sum = 0;
            for (int disk = 0; disk < layout.disks; disk++) {
                sum += loadOn[disk];
            }
            return sum;
        }

        boolean addSeen(int datum, boolean dearer) {
            if (seen >= MAX_SEEN) {
                return false;
            }
            seenDatum[seen] = datum;
            seenDearer |= dearer ? 1 << seen : 0;
            seen++;
            return true;
        }
    }

    /** Differences of sets of DISKS, as bits. */
    private static final class Differences {
        /** How many of a set have another one of it so far on. */
        static int ofSet(int set, int by, int among) {
            int on = (set << by | set >> (among - by)) & ((1 << among) - 1);
            return Integer.bitCount(set & on);
        }

        static int ofFamily(Told told) {
            int alike = NONE;
            for (int by = 1; by < told.disks; by++) {
                int sum = ofCycles(told, by);
                if (sum == NONE || (by > 1 && sum != alike)) {
                    return NONE;
                }
                alike = sum;
            }
            return alike;
        }

        /** NONE: there is no cycle block. */
        private static int ofCycles(Told told, int by) {
            int sum = NONE;
            for (int block = 0; block < told.blocks; block++) {
                if (told.kind[block] == KIND_CYCLE) {
                    sum = Math.max(sum, 0) + ofSet(told.bitsOf(block), by, told.disks);
                }
            }
            return sum;
        }

        private static boolean areAlike(int set, int among) {
            int many = ofSet(set, 1, among);
            for (int by = 2; by < among; by++) {
                if (ofSet(set, by, among) != many) {
                    return false;
                }
            }
            return true;
        }

        static int firstAlike(int size, int among) {
            return among < MIN_DISKS || size > among ? NONE : firstAlikeFrom(1, 1, size - 1, among);
        }

        /** A set made full by so many DISKS, none before the one named: these come the least first. */
        private static int firstAlikeFrom(int set, int from, int missing, int among) {
            if (missing <= 0) {
                return areAlike(set, among) ? set : NONE;
            }
            for (int disk = from; disk + missing <= among; disk++) {
                int found = firstAlikeFrom(set | 1 << disk, disk + 1, missing - 1, among);
                if (found != NONE) {
                    return found;
                }
            }
            return NONE;
        }
    }

    /** What would come of the loss of DISKS, as all is now. */
    private static final class Outlook {
        private final State state;
        private final Layout layout;
        private final int[] room = new int[MAX_DISKS];

        Outlook(State state, Layout layout) {
            this.state = state;
            this.layout = layout;
        }

        /** STRIPES with nothing LOST and UNITS on both now. */
        int readsFrom(int other, int disk) {
            int both = 1 << disk | 1 << other;
            int reads = 0;
            for (int stripe = 0; stripe < layout.stripes; stripe++) {
                if (state.lostBits(stripe) == 0 && (state.disksNow(stripe) & both) == both) {
                    reads++;
                }
            }
            return reads;
        }

        int ticks(int disk, int loadsByTick) {
            long waiting = rebuiltIntoSpares(disk);
            int ticks = 0;
            // a DISK can take at least one LOAD, so that each tick sees at least one STRIPE rebuilt
            for (; ticks < MAX_STRIPES && waiting != 0; ticks++) {
                for (int i = 0; i < MAX_DISKS; i++) {
                    room[i] = loadsByTick;
                }
                waiting = afterTick(waiting, disk);
            }
            return ticks;
        }

        private long rebuiltIntoSpares(int disk) {
            long stripes = 0;
            for (int stripe = 0; stripe < layout.stripes; stripe++) {
                boolean hit = (state.disksNow(stripe) >> disk & 1) != 0;
                boolean whole = state.lostBits(stripe) == 0 && state.awayUnit(stripe) == NONE;
                if (hit && whole && state.isUp(layout.spare[stripe])) {
                    stripes |= 1L << stripe;
                }
            }
            return stripes;
        }

        private long afterTick(long waiting, int disk) {
            long left = waiting;
            for (int stripe = 0; stripe < layout.stripes; stripe++) {
                if ((waiting >> stripe & 1) != 0) {
                    int busy = layout.bits[stripe] & ~(1 << disk) | 1 << layout.spare[stripe];
                    if (canTake(busy)) {
                        take(busy);
                        left &= ~(1L << stripe);
                    }
                }
            }
            return left;
        }

        private boolean canTake(int busy) {
            for (int i = 0; i < MAX_DISKS; i++) {
                if ((busy >> i & 1) != 0 && room[i] < 1) {
                    return false;
                }
            }
            return true;
        }

        private void take(int busy) {
            for (int i = 0; i < MAX_DISKS; i++) {
                room[i] -= busy >> i & 1;
            }
        }

        /** Whether the loss of these DISKS would make a STRIPE DEAD that is not. */
        boolean kills(int disks) {
            for (int stripe = 0; stripe < layout.stripes; stripe++) {
                int before = state.lostMany(stripe);
                if (before < 2 && before + Integer.bitCount(state.disksNow(stripe) & disks) >= 2) {
                    return true;
                }
            }
            return false;
        }

        int deadlyPairs() {
            int pairs = 0;
            for (int disk = 0; disk < layout.disks; disk++) {
                for (int other = disk + 1; other < layout.disks; other++) {
                    if (state.isUp(disk) && state.isUp(other) && kills(1 << disk | 1 << other)) {
                        pairs++;
                    }
                }
            }
            return pairs;
        }

        /** Whether a READ of the DATUM would take more, or could not be, were the DISK LOST. */
        private boolean dearerWithout(int disk, int datum) {
            int x = layout.unitOf[datum];
            int stripe = x / WIDTH;
            boolean lostNow = state.where[x] == LOST;
            if (!lostNow && state.diskNow(x) != disk) {
                return false;
            }
            int lostThen = state.lostMany(stripe) + (state.disksNow(stripe) >> disk & 1);
            if (lostThen >= 2) {
                return true;
            }
            return !lostNow && layout.size[stripe] - 1 > 1;
        }

        int suspects() {
            int disks = 0;
            for (int disk = 0; disk < layout.disks; disk++) {
                if (state.isUp(disk) && fitsSeen(disk)) {
                    disks |= 1 << disk;
                }
            }
            return disks;
        }

        private boolean fitsSeen(int disk) {
            for (int i = 0; i < state.seen; i++) {
                boolean wasDearer = (state.seenDearer >> i & 1) != 0;
                if (dearerWithout(disk, state.seenDatum[i]) != wasDearer) {
                    return false;
                }
            }
            return true;
        }

        int bestQuestion() {
            int disks = suspects();
            int least = Integer.bitCount(disks);
            int best = NONE;
            for (int datum = 0; datum < layout.data; datum++) {
                int left = leftBy(datum, disks);
                if (left < least) {
                    least = left;
                    best = datum;
                }
            }
            return best;
        }

        /** How many of these DISKS the worse of the two answers leaves. */
        private int leftBy(int datum, int disks) {
            int dearer = 0;
            for (int disk = 0; disk < layout.disks; disk++) {
                if ((disks >> disk & 1) != 0 && dearerWithout(disk, datum)) {
                    dearer++;
                }
            }
            return Math.max(dearer, Integer.bitCount(disks) - dearer);
        }
    }

    /** DRAWS by a SEED. */
    private static final class Draws {
        private long g;

        Draws(int seed) {
            g = seed;
        }

        int below(int m) {
            g = (g * 1103515245L + 12345L) % 2147483648L;
            return m > 0 ? (int) (g / 65536 % m) : 0;
        }
    }
}
