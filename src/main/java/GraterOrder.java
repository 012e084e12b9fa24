import java.util.Arrays;
import java.util.NoSuchElementException;

/**
 * An order of brothers who grate the blocks that are their time: told as a text,
 * lived by calls, by draws or by a book, reckoned with, undone and kept in images.
 */
public final class GraterOrder {
    public static final int NONE = -1;

    private static final int MOST_TAPE = 940;
    private static final int FED_AT_ONCE = 20;
    private static final int MOST_ORDER = 900;
    private static final int MOST_BOOK = 400;
    private static final int MOST_SENTENCE = 200;
    private static final int HEAP_BYTES = 2;

    private static final int MOST_BROTHERS = 7;
    private static final int MOST_GRATERS = 6;
    private static final int MOST_LINES = 40;
    private static final int MOST_ONES = 20;
    private static final int MOST_WITHIN = 8;
    private static final int MOST_DAYS_AT_ONCE = 60;
    private static final int ALL_DAYS = 400;
    private static final int MOST_SEEDS = 30;
    private static final int ODDS_DAYS = 20;
    private static final int MOST_STROKES_FOR = 120;
    private static final int MOST_UNDONE = 8;
    private static final int IMAGES = 2;
    private static final int OTHER_LIVES = -1000;

    private static final int FINE = 0;
    private static final int COARSE = 1;
    private static final int SLICE = 2;
    private static final int SIDES = 3;

    // The tens of why a LINE of a BOOK is WRONG.
    private static final int GRATES = 0;
    private static final int TAKES = 1;
    private static final int PUTS = 2;
    private static final int SWAPS = 3;
    private static final int FILES = 4;
    private static final int DAYS = 5;

    private static final int NO_TOKEN = 1;
    private static final int WRONG_NUMBER = 2;
    private static final int WRONG_NAME = 3;
    private static final int TOO_MANY = 4;

    private final int[] tape = new int[MOST_TAPE];
    private int bytes;
    private int faultKind;

    private final Order order = new Order();
    private final Order draft = new Order();
    private final State state = new State(order);
    private final State trial = new State(order);
    private final Sentence sentence = new Sentence();
    private final Sentence sentenceDraft = new Sentence();
    private final Past past = new Past(order);
    private final Reader reader = new Reader();

    private final Order[] keptOrder = new Order[IMAGES];
    private final State[] keptState = new State[IMAGES];
    private final Sentence[] keptSentence = new Sentence[IMAGES];
    private final boolean[] isKept = new boolean[IMAGES];

    private final Book book = new Book();
    private final Strokes strokes = new Strokes();
    private final Heaps heaps = new Heaps();
    private final Deal deal = new Deal();
    private final Tag tag = new Tag();

    public GraterOrder() {
        for (int k = 0; k < IMAGES; k++) {
            keptOrder[k] = new Order();
            keptState[k] = new State(keptOrder[k]);
            keptSentence[k] = new Sentence();
        }
        state.begin();
    }

    public int feed(int a, int b, int c, int d, int e) {
        if (bytes + FED_AT_ONCE > MOST_TAPE) {
            return NONE;
        }
        addNumber(a);
        addNumber(b);
        addNumber(c);
        addNumber(d);
        addNumber(e);
        return bytes;
    }

    private void addNumber(int number) {
        for (int shift = 24; shift >= 0; shift -= 8) {
            if (bytes < tape.length) {
                tape[bytes] = (number >>> shift) & 255;
                bytes++;
            }
        }
    }

    public boolean end(int n) {
        if (n < 0 || n > bytes) {
            return false;
        }
        bytes = n;
        return true;
    }

    /** The tape goes over to the reader and is empty from then on. */
    private void readTape(int most) {
        reader.open(tape, bytes, most);
        bytes = 0;
    }

    public int order() {
        readTape(MOST_ORDER);
        boolean good = draft.readFrom(reader);
        faultKind = reader.fault;
        if (!good) {
            return -1 - reader.faultAt;
        }
        order.copyFrom(draft);
        state.begin();
        sentence.forget();
        past.forget();
        return order.lines;
    }

    public int fault() {
        return faultKind;
    }

    public int brother(int b, int what) throws NoSuchElementException {
        if (!order.hasBrother(b) || what < 0 || what > 7) {
            throw new NoSuchElementException("no such brother or no such thing of him");
        }
        switch (what) {
            case 0: return state.left[b];
            case 1: return order.block[b];
            case 2: return order.hard[b];
            case 3: return state.held[b];
            case 4: return state.today[b];
            case 5: return state.hurt[b];
            case 6: return state.odd[b];
            default: return state.robbedOf(b);
        }
    }

    public int grater(int g, int what) {
        if (!order.hasGrater(g)) {
            return NONE;
        }
        switch (what) {
            case 0: return order.teeth[g];
            case 1: return order.edge[g];
            case 2: return state.worn[g];
            case 3: return state.bites(g);
            case 4: return state.holderOf(g);
            default: return NONE;
        }
    }

    public int now(int what) {
        switch (what) {
            case 0: return state.day;
            case 1: return state.heap;
            case 2: return state.lastHeap;
            case 3: return state.files;
            case 4: return state.goneBits();
            case 5: return state.armedBits();
            case 6: return state.allLeft();
            case 7: return state.allOddness();
            default: return NONE;
        }
    }

    public int grate(int b, int c, int side) {
        if (!order.hasBrother(b) || !order.hasBrother(c) || !isSide(side)) {
            return NONE;
        }
        return actIfCan(GRATES, b, c, side);
    }

    public int take(int b, int g) {
        if (!order.hasBrother(b) || !order.hasGrater(g)) {
            return NONE;
        }
        return actIfCan(TAKES, b, g, 0);
    }

    public int put(int b) {
        if (!order.hasBrother(b)) {
            return NONE;
        }
        return actIfCan(PUTS, b, 0, 0);
    }

    public int swap(int b, int c) {
        if (!order.hasBrother(b) || !order.hasBrother(c)) {
            return NONE;
        }
        return actIfCan(SWAPS, b, c, 0);
    }

    public int file(int g) {
        if (!order.hasGrater(g)) {
            return NONE;
        }
        return actIfCan(FILES, g, 0, 0);
    }

    private int actIfCan(int verb, int who, int what, int side) {
        int why = state.whyNot(verb, who, what, side);
        if (why == 0) {
            past.keep(state);
            state.act(verb, who, what, side);
        }
        return why;
    }

    private static boolean isSide(int side) {
        return side >= 0 && side < SIDES;
    }

    public int days(int n) {
        if (n < 1 || n > MOST_DAYS_AT_ONCE) {
            return NONE;
        }
        int going = Math.min(n, state.daysLeft());
        if (going > 0) {
            past.keep(state);
            state.passDays(going);
        }
        return going;
    }

    public int undo() {
        return past.takeBack(state) ? past.kept : NONE;
    }

    public int curl(int g, int b, int side) {
        if (!order.hasGrater(g) || !order.hasBrother(b) || !isSide(side)) {
            return NONE;
        }
        return state.curlOf(g, b, side);
    }

    public int strokes(int b, int n) {
        if (!order.hasBrother(b) || n < 0 || n > MOST_STROKES_FOR) {
            return NONE;
        }
        return strokes.fewest(state, b, n);
    }

    public int strokesOf(int side) {
        return strokes.known && isSide(side) ? strokes.ofSide[side] : NONE;
    }

    public int heaps() {
        int length = bytes;
        bytes = 0;
        if (length != HEAP_BYTES) {
            return NONE;
        }
        return heaps.countRows(state, tape[0] * 256 + tape[1]);
    }

    public int heapOf(int b) {
        return b >= 0 && b < heaps.toldBrothers ? heaps.first[b] : NONE;
    }

    public int look() {
        return heaps.toldLook;
    }

    public int dealt() {
        return deal.leastSum(state);
    }

    public int dealtOf(int b) {
        return b >= 0 && b < deal.toldBrothers ? deal.graterOf[b] : NONE;
    }

    public int gone(int b) {
        if (!order.hasBrother(b)) {
            return NONE;
        }
        int left = state.left[b];
        if (left == 0) {
            return 0;
        }
        int each = order.even;
        return each > 0 ? (left + each - 1) / each : NONE;
    }

    public int time(int b, int what) throws NoSuchElementException {
        if (!order.hasBrother(b) || what < 0 || what > 1) {
            throw new NoSuchElementException("no such brother or no such part of a fraction");
        }
        int left = state.left[b];
        int was = order.block[b];
        int shared = greatestShared(left, was);
        int part = what == 0 ? left : was;
        return shared > 0 ? part / shared : part;
    }

    /** The greatest number that both are multiples of; blocks are small enough to try each. */
    private static int greatestShared(int left, int was) {
        for (int d = was; d > 1; d--) {
            if (left % d == 0 && was % d == 0) {
                return d;
            }
        }
        return 1;
    }

    public int from(int b, int c) {
        if (!order.hasBrother(b) || !order.hasBrother(c)) {
            return NONE;
        }
        return state.grated[b][c];
    }

    public int thief(int b) {
        return order.hasBrother(b) ? state.thiefOf(b) : NONE;
    }

    public int tag(int b) {
        return order.hasBrother(b) ? tag.write(state, b) : NONE;
    }

    public int byteAt(int i) {
        return i >= 0 && i < tag.length ? tag.text[i] : NONE;
    }

    public int drawn(int n, int seed) {
        if (n < 1 || n > MOST_DAYS_AT_ONCE || order.brothers == 0) {
            return NONE;
        }
        int going = Math.min(n, state.daysLeft());
        if (going > 0) {
            past.keep(state);
            state.drawDays(going, seed);
        }
        return going;
    }

    public int odds(int b, int n, int seed) {
        if (!order.hasBrother(b) || n < 1 || n > MOST_SEEDS) {
            return NONE;
        }
        int going = Math.min(ODDS_DAYS, state.daysLeft());
        int times = 0;
        for (int i = 0; i < n; i++) {
            trial.copyFrom(state);
            trial.drawDays(going, seed + i);
            if (trial.left[b] == 0) {
                times++;
            }
        }
        return times;
    }

    public int book(int lives) {
        if (lives != 0 && lives != 1) {
            return OTHER_LIVES;
        }
        readTape(MOST_BOOK);
        boolean good = book.readFrom(reader, order);
        faultKind = reader.fault;
        if (!good) {
            return -2 - reader.faultAt;
        }
        if (lives == 1) {
            past.keep(state);
            return book.live(state);
        }
        trial.copyFrom(state);
        return book.live(trial);
    }

    public int told(int what) {
        switch (what) {
            case 0: return book.toldWhy;
            case 1: return book.toldLines;
            case 2: return book.toldDay;
            case 3: return book.toldHeap;
            default: return NONE;
        }
    }

    public int sentence() {
        readTape(MOST_SENTENCE);
        boolean good = sentenceDraft.readFrom(reader, order);
        faultKind = reader.fault;
        if (!good) {
            return -1 - reader.faultAt;
        }
        sentence.copyFrom(sentenceDraft);
        return sentence.ones;
    }

    public int said(int k) {
        if (sentence.ones == 0) {
            return NONE;
        }
        int found = 0;
        for (int b = 0; b < order.brothers; b++) {
            if (sentence.isSaidOf(state, b)) {
                if (found == k) {
                    return b;
                }
                found++;
            }
        }
        return k == NONE ? found : NONE;
    }

    public boolean image(int k) {
        if (k < 0 || k >= IMAGES) {
            return false;
        }
        keptOrder[k].copyFrom(order);
        keptState[k].copyFrom(state);
        keptSentence[k].copyFrom(sentence);
        isKept[k] = true;
        return true;
    }

    public boolean restore(int k) {
        if (k < 0 || k >= IMAGES || !isKept[k]) {
            return false;
        }
        order.copyFrom(keptOrder[k]);
        state.copyFrom(keptState[k]);
        sentence.copyFrom(keptSentence[k]);
        past.forget();
        return true;
    }

    public int count(int what) {
        switch (what) {
            case 0: return order.brothers;
            case 1: return order.graters;
            case 2: return order.even;
            case 3: return order.draught;
            case 4: return bytes;
            default: return NONE;
        }
    }

    /** The WORDS that are no NAMES; OTHER stands for every WORD else, and for what is no WORD. */
    private enum Word {
        OTHER(""),
        BROTHER("brother"), GRATER("grater"), HOLDS("holds"),
        EVEN("even"), FILES("files"), DRAUGHT("draught"),
        GRATES("grates"), TAKES("takes"), PUTS("puts"), SWAPS("swaps"),
        FILE("file"), DAY("day"),
        FINE("fine"), COARSE("coarse"), SLICE("slice"),
        OR("or"), AND("and"), NOT("not"),
        GONE("gone"), WHOLE("whole"), ARMED("armed"), ROBBED("robbed"), WITH("with"),
        LEFT("left"), TODAY("today"), HURT("hurt"), NUMBER("number");

        private static final Word[] ALL = values();

        final String text;

        Word(String text) {
            this.text = text;
        }

        /** The WORD of so many bytes of a text from a place on. */
        static Word at(int[] bytes, int place, int length) {
            for (int i = 0; i < ALL.length; i++) {
                if (ALL[i].stands(bytes, place, length)) {
                    return ALL[i];
                }
            }
            return OTHER;
        }

        private boolean stands(int[] bytes, int place, int length) {
            if (length != text.length() || place < 0 || place + length > bytes.length) {
                return false;
            }
            for (int i = 0; i < length; i++) {
                if (bytes[place + i] != text.charAt(i)) {
                    return false;
                }
            }
            return true;
        }
    }

    /** The TOKENS of a text one behind another, and the first FAULT that was found. */
    private static final class Reader {
        static final int END = 0;
        static final int WORD = 1;
        static final int NUMBER = 2;
        static final int MARK = 3;
        static final int NOTHING = 4;

        private static final int LONGEST_WORD = 7;
        private static final int LONGEST_NUMBER = 3;
        private static final int MOST_TOKENS = MOST_ORDER + 1;
        private static final String MARKS = ";<=>()";

        private int tokens;
        private final int[] kindOf = new int[MOST_TOKENS];
        private final int[] placeOf = new int[MOST_TOKENS];
        private final long[] valueOf = new long[MOST_TOKENS];
        private final Word[] wordOf = new Word[MOST_TOKENS];
        private boolean isTooLong;

        private int at;
        private int place;
        int kind;
        Word word = Word.OTHER;
        /** The letters of a WORD, eight bits each; a NUMBER; the sign of a mark. */
        long value;

        int fault;
        int faultAt;

        Reader() {
            for (int i = 0; i < MOST_TOKENS; i++) {
                wordOf[i] = Word.OTHER;
            }
        }

        /** TOKENS that begin ahead of the limit are read whole, and the end stands at the limit. */
        void open(int[] text, int bytes, int most) {
            int length = Math.max(0, Math.min(bytes, text.length));
            int limit = Math.min(length, most);
            int behind = 0;
            tokens = 0;
            for (int i = 0; i < limit; i++) {
                if (i >= behind && !isBlank(text[i])) {
                    behind = i + readToken(text, length, i);
                }
            }
            addToken(END, limit, 0, Word.OTHER);
            isTooLong = length > most;
            fault = 0;
            faultAt = 0;
            at = -1;
            advance();
        }

        /** How many bytes the TOKEN has that begins there. */
        private int readToken(int[] text, int length, int from) {
            int letters = 0;
            int digits = 0;
            long name = 0;
            int number = 0;
            for (int i = from; i < length && isLetterOrDigit(text[i]); i++) {
                if (text[i] >= 'a') {
                    letters++;
                    name = name << 8 | text[i];
                } else {
                    digits++;
                    number = number * 10 + text[i] - '0';
                }
            }
            if (letters + digits == 0) {
                boolean isMark = MARKS.indexOf((char) text[from]) >= 0;
                addToken(isMark ? MARK : NOTHING, from, text[from], Word.OTHER);
                return 1;
            }
            if (digits == 0 && letters <= LONGEST_WORD) {
                addToken(WORD, from, name, Word.at(text, from, letters));
            } else if (letters == 0 && digits <= LONGEST_NUMBER) {
                addToken(NUMBER, from, number, Word.OTHER);
            } else {
                addToken(NOTHING, from, 0, Word.OTHER);
            }
            return letters + digits;
        }

        private static boolean isBlank(int sign) {
            return sign == ' ' || sign == '\n';
        }

        private static boolean isLetterOrDigit(int sign) {
            return sign >= 'a' && sign <= 'z' || sign >= '0' && sign <= '9';
        }

        private void addToken(int newKind, int newPlace, long newValue, Word newWord) {
            if (tokens < MOST_TOKENS) {
                kindOf[tokens] = newKind;
                placeOf[tokens] = newPlace;
                valueOf[tokens] = newValue;
                wordOf[tokens] = newWord;
                tokens++;
            }
        }

        /** The next TOKEN; behind the end there is none. */
        void advance() {
            if (at + 1 < tokens) {
                at++;
                kind = kindOf[at];
                place = placeOf[at];
                value = valueOf[at];
                word = wordOf[at];
            }
        }

        /** Whether the text is over: a text of too many bytes never is, its limit is a FAULT. */
        boolean isOver() {
            return kind == END && !isTooLong;
        }

        boolean isName() {
            return kind == WORD && word == Word.OTHER;
        }

        boolean isMark(int sign) {
            return kind == MARK && value == sign;
        }

        boolean refuse(int why) {
            fault = why;
            faultAt = place;
            return false;
        }

        boolean passMark(int sign) {
            if (!isMark(sign)) {
                return refuse(NO_TOKEN);
            }
            advance();
            return true;
        }

        /** The NUMBER that stands here, if it is in its bounds; NONE and a FAULT otherwise. */
        int passNumber(int least, int most) {
            if (kind != NUMBER) {
                refuse(NO_TOKEN);
                return NONE;
            }
            if (value < least || value > most) {
                refuse(WRONG_NUMBER);
                return NONE;
            }
            int passed = (int) value;
            advance();
            return passed;
        }
    }

    /** What an ORDER tells; a NAME is a long of its letters, eight bits each. */
    private static final class Order {
        int lines;
        int brothers;
        int graters;
        int even;
        int files;
        int draught;
        private boolean evenTold;
        private boolean filesTold;
        private boolean draughtTold;

        final long[] brotherName = new long[MOST_BROTHERS];
        final int[] block = new int[MOST_BROTHERS];
        final int[] hard = new int[MOST_BROTHERS];
        final int[] holds = new int[MOST_BROTHERS];
        final long[] graterName = new long[MOST_GRATERS];
        final int[] teeth = new int[MOST_GRATERS];
        final int[] edge = new int[MOST_GRATERS];

        Order() {
            clear();
        }

        private void clear() {
            lines = 0;
            brothers = 0;
            graters = 0;
            even = 3;
            files = 1;
            draught = 0;
            evenTold = false;
            filesTold = false;
            draughtTold = false;
            Arrays.fill(holds, NONE);
        }

        void copyFrom(Order other) {
            lines = other.lines;
            brothers = other.brothers;
            graters = other.graters;
            even = other.even;
            files = other.files;
            draught = other.draught;
            System.arraycopy(other.brotherName, 0, brotherName, 0, MOST_BROTHERS);
            System.arraycopy(other.block, 0, block, 0, MOST_BROTHERS);
            System.arraycopy(other.hard, 0, hard, 0, MOST_BROTHERS);
            System.arraycopy(other.holds, 0, holds, 0, MOST_BROTHERS);
            System.arraycopy(other.graterName, 0, graterName, 0, MOST_GRATERS);
            System.arraycopy(other.teeth, 0, teeth, 0, MOST_GRATERS);
            System.arraycopy(other.edge, 0, edge, 0, MOST_GRATERS);
        }

        boolean hasBrother(int b) {
            return b >= 0 && b < brothers;
        }

        boolean hasGrater(int g) {
            return g >= 0 && g < graters;
        }

        private int brotherNamed(long name) {
            for (int b = 0; b < brothers; b++) {
                if (brotherName[b] == name) {
                    return b;
                }
            }
            return NONE;
        }

        private int graterNamed(long name) {
            for (int g = 0; g < graters; g++) {
                if (graterName[g] == name) {
                    return g;
                }
            }
            return NONE;
        }

        /** The BROTHER whose NAME stands here; NONE and a FAULT if there is none. */
        int brotherAt(Reader r) {
            int b = r.isName() ? brotherNamed(r.value) : NONE;
            if (b == NONE) {
                r.refuse(r.isName() ? WRONG_NAME : NO_TOKEN);
            }
            return b;
        }

        /** The GRATER whose NAME stands here; NONE and a FAULT if there is none. */
        int graterAt(Reader r) {
            int g = r.isName() ? graterNamed(r.value) : NONE;
            if (g == NONE) {
                r.refuse(r.isName() ? WRONG_NAME : NO_TOKEN);
            }
            return g;
        }

        boolean readFrom(Reader r) {
            clear();
            for (int i = 0; i < MOST_ORDER && !r.isOver(); i++) {
                if (!readLine(r) || !r.passMark(';')) {
                    return false;
                }
                lines++;
            }
            return true;
        }

        private boolean readLine(Reader r) {
            switch (r.word) {
                case BROTHER: return readBrother(r);
                case GRATER: return readGrater(r);
                case HOLDS: return readHolds(r);
                case EVEN: return readEven(r);
                case FILES: return readFiles(r);
                case DRAUGHT: return readDraught(r);
                default: return r.refuse(NO_TOKEN);
            }
        }

        private boolean readBrother(Reader r) {
            if (brothers >= MOST_BROTHERS) {
                return r.refuse(TOO_MANY);
            }
            r.advance();
            if (!isNewName(r)) {
                return false;
            }
            brotherName[brothers] = r.value;
            r.advance();
            block[brothers] = r.passNumber(1, 240);
            if (block[brothers] == NONE) {
                return false;
            }
            hard[brothers] = r.passNumber(0, 5);
            if (hard[brothers] == NONE) {
                return false;
            }
            brothers++;
            return true;
        }

        private boolean readGrater(Reader r) {
            if (graters >= MOST_GRATERS) {
                return r.refuse(TOO_MANY);
            }
            r.advance();
            if (!isNewName(r)) {
                return false;
            }
            graterName[graters] = r.value;
            r.advance();
            teeth[graters] = r.passNumber(1, 9);
            if (teeth[graters] == NONE) {
                return false;
            }
            edge[graters] = r.passNumber(1, 60);
            if (edge[graters] == NONE) {
                return false;
            }
            graters++;
            return true;
        }

        private boolean isNewName(Reader r) {
            if (!r.isName()) {
                return r.refuse(NO_TOKEN);
            }
            if (brotherNamed(r.value) != NONE || graterNamed(r.value) != NONE) {
                return r.refuse(WRONG_NAME);
            }
            return true;
        }

        private boolean readHolds(Reader r) {
            r.advance();
            int b = brotherAt(r);
            if (b == NONE) {
                return false;
            }
            if (holds[b] != NONE) {
                return r.refuse(WRONG_NAME);
            }
            r.advance();
            int g = graterAt(r);
            if (g == NONE) {
                return false;
            }
            if (isHeld(g)) {
                return r.refuse(WRONG_NAME);
            }
            r.advance();
            holds[b] = g;
            return true;
        }

        private boolean isHeld(int g) {
            for (int b = 0; b < brothers; b++) {
                if (holds[b] == g) {
                    return true;
                }
            }
            return false;
        }

        private boolean readEven(Reader r) {
            if (evenTold) {
                return r.refuse(WRONG_NAME);
            }
            evenTold = true;
            r.advance();
            even = r.passNumber(0, 20);
            return even != NONE;
        }

        private boolean readFiles(Reader r) {
            if (filesTold) {
                return r.refuse(WRONG_NAME);
            }
            filesTold = true;
            r.advance();
            files = r.passNumber(0, 20);
            return files != NONE;
        }

        private boolean readDraught(Reader r) {
            if (draughtTold) {
                return r.refuse(WRONG_NAME);
            }
            draughtTold = true;
            r.advance();
            draught = r.passNumber(0, 12);
            return draught != NONE;
        }
    }

    /** All that is so in an ORDER on a DAY, and what may be done there. */
    private static final class State {
        private static final int END_OF_BLOCK = 3;
        private static final int SAFE_TO_SLICE = 10;
        private static final int MOST_HURT = 99;
        private static final int MOST_ODDNESS = 9999;

        final Order order;
        final int[] left = new int[MOST_BROTHERS];
        final int[] held = new int[MOST_BROTHERS];
        final int[] today = new int[MOST_BROTHERS];
        final int[] hurt = new int[MOST_BROTHERS];
        final int[] odd = new int[MOST_BROTHERS];
        /** What the first one grated from the block of the second one. */
        final int[][] grated = new int[MOST_BROTHERS][MOST_BROTHERS];
        /** Strokes of each GRATER since it was filed. */
        final int[] worn = new int[MOST_GRATERS];
        int day;
        int heap;
        int lastHeap;
        int files;
        private int seed;

        State(Order order) {
            this.order = order;
        }

        void begin() {
            System.arraycopy(order.block, 0, left, 0, MOST_BROTHERS);
            System.arraycopy(order.holds, 0, held, 0, MOST_BROTHERS);
            Arrays.fill(today, 0);
            Arrays.fill(hurt, 0);
            Arrays.fill(odd, 0);
            for (int b = 0; b < MOST_BROTHERS; b++) {
                Arrays.fill(grated[b], 0);
            }
            Arrays.fill(worn, 0);
            day = 0;
            heap = 0;
            lastHeap = 0;
            files = order.files;
        }

        /** The ORDER itself is not copied: both are states of one, or the caller copies it. */
        void copyFrom(State other) {
            System.arraycopy(other.left, 0, left, 0, MOST_BROTHERS);
            System.arraycopy(other.held, 0, held, 0, MOST_BROTHERS);
            System.arraycopy(other.today, 0, today, 0, MOST_BROTHERS);
            System.arraycopy(other.hurt, 0, hurt, 0, MOST_BROTHERS);
            System.arraycopy(other.odd, 0, odd, 0, MOST_BROTHERS);
            for (int b = 0; b < MOST_BROTHERS; b++) {
                System.arraycopy(other.grated[b], 0, grated[b], 0, MOST_BROTHERS);
            }
            System.arraycopy(other.worn, 0, worn, 0, MOST_GRATERS);
            day = other.day;
            heap = other.heap;
            lastHeap = other.lastHeap;
            files = other.files;
        }

        int bites(int g) {
            int edge = order.edge[g];
            int lost = edge > 0 ? worn[g] / edge : 0;
            return Math.max(0, order.teeth[g] - lost);
        }

        /** The CURL if the block was large. */
        int curlOfLarge(int g, int b, int side) {
            int bite = bites(g);
            if (side == FINE) {
                return bite > 0 ? 1 : 0;
            }
            int coarse = Math.max(0, bite - order.hard[b]);
            return side == SLICE ? 3 * coarse : coarse;
        }

        int curlOf(int g, int b, int side) {
            return Math.min(curlOfLarge(g, b, side), left[b]);
        }

        int holderOf(int g) {
            for (int b = 0; b < order.brothers; b++) {
                if (held[b] == g) {
                    return b;
                }
            }
            return NONE;
        }

        int robbedOf(int b) {
            int sum = 0;
            for (int c = 0; c < order.brothers; c++) {
                sum += c == b ? 0 : grated[c][b];
            }
            return sum;
        }

        int thiefOf(int b) {
            int thief = NONE;
            int most = 0;
            for (int c = 0; c < order.brothers; c++) {
                if (c != b && grated[c][b] > most) {
                    most = grated[c][b];
                    thief = c;
                }
            }
            return thief;
        }

        int goneBits() {
            int bits = 0;
            for (int b = 0; b < order.brothers; b++) {
                bits |= left[b] == 0 ? 1 << b : 0;
            }
            return bits;
        }

        int armedBits() {
            int bits = 0;
            for (int b = 0; b < order.brothers; b++) {
                bits |= held[b] != NONE ? 1 << b : 0;
            }
            return bits;
        }

        int allLeft() {
            int sum = 0;
            for (int b = 0; b < order.brothers; b++) {
                sum += left[b];
            }
            return sum;
        }

        int allOddness() {
            int sum = 0;
            for (int b = 0; b < order.brothers; b++) {
                sum += odd[b];
            }
            return sum;
        }

        int daysLeft() {
            return Math.max(0, ALL_DAYS - day);
        }

        /** Why an act can't be done, 0 if it can; all its numbers are numbers of the ORDER. */
        int whyNot(int verb, int who, int what, int side) {
            switch (verb) {
                case GRATES: return whyNotGrate(who, what, side);
                case TAKES: return whyNotTake(who, what);
                case PUTS: return held[who] == NONE ? 1 : 0;
                case SWAPS: return whyNotSwap(who, what);
                case FILES: return whyNotFile(who);
                default: return who > daysLeft() ? 1 : 0;
            }
        }

        private int whyNotGrate(int b, int c, int side) {
            int g = held[b];
            if (g == NONE) {
                return 1;
            }
            if (left[c] == 0) {
                return 2;
            }
            boolean isEnd = left[c] <= END_OF_BLOCK && order.block[c] > END_OF_BLOCK;
            if (isEnd && side != FINE) {
                return 3;
            }
            return curlOf(g, c, side) == 0 ? 4 : 0;
        }

        private int whyNotTake(int b, int g) {
            if (held[b] != NONE) {
                return 1;
            }
            return holderOf(g) != NONE ? 2 : 0;
        }

        private int whyNotSwap(int b, int c) {
            if (b == c) {
                return 1;
            }
            return held[b] == NONE && held[c] == NONE ? 2 : 0;
        }

        private int whyNotFile(int g) {
            if (worn[g] == 0) {
                return 1;
            }
            return files == 0 ? 2 : 0;
        }

        /** Does what whyNot() has nothing against. */
        void act(int verb, int who, int what, int side) {
            switch (verb) {
                case GRATES:
                    grateBlock(who, what, side);
                    break;
                case TAKES:
                    held[who] = what;
                    break;
                case PUTS:
                    held[who] = NONE;
                    break;
                case SWAPS:
                    swapHeld(who, what);
                    break;
                case FILES:
                    worn[who] = 0;
                    files--;
                    break;
                default:
                    passDays(who);
                    break;
            }
        }

        private void swapHeld(int b, int c) {
            int his = held[b];
            held[b] = held[c];
            held[c] = his;
        }

        private void grateBlock(int b, int c, int side) {
            int g = held[b];
            if (g == NONE) {
                return;
            }
            int curl = curlOf(g, c, side);
            if (side == SLICE && left[c] < SAFE_TO_SLICE) {
                hurt[b] = Math.min(MOST_HURT, hurt[b] + 1);
            }
            left[c] -= curl;
            heap += curl;
            today[b] += curl;
            grated[b][c] += curl;
            worn[g] += side == SLICE ? 2 : 1;
        }

        void passDays(int n) {
            for (int i = 0; i < n; i++) {
                passDay();
            }
        }

        private void passDay() {
            for (int b = 0; b < order.brothers; b++) {
                int off = Math.abs(today[b] - order.even);
                odd[b] = Math.min(MOST_ODDNESS, odd[b] + off);
                today[b] = 0;
            }
            lastHeap = heap;
            heap = 0;
            day++;
        }

        void drawDays(int n, int firstSeed) {
            seed = firstSeed;
            for (int i = 0; i < n; i++) {
                for (int b = 0; b < order.brothers; b++) {
                    drawStroke(b);
                }
                if (draw(12) < order.draught) {
                    heap /= 2;
                }
                passDay();
            }
        }

        private void drawStroke(int b) {
            int lot = draw(SIDES + 1);
            int whose = lot < SIDES ? b : draw(order.brothers);
            int side = lot < SIDES ? lot : FINE;
            if (whyNotGrate(b, whose, side) == 0) {
                grateBlock(b, whose, side);
            }
        }

        private int draw(int n) {
            seed = seed * 1103515245 + 12345;
            return n > 0 ? (seed >>> 8) % n : 0;
        }
    }

    /** The states that undo() goes back to, in a ring. */
    private static final class Past {
        private final State[] row = new State[MOST_UNDONE];
        private int next;
        int kept;

        Past(Order order) {
            for (int i = 0; i < MOST_UNDONE; i++) {
                row[i] = new State(order);
            }
        }

        void forget() {
            kept = 0;
        }

        void keep(State state) {
            row[next].copyFrom(state);
            next = (next + 1) % MOST_UNDONE;
            kept = Math.min(MOST_UNDONE, kept + 1);
        }

        boolean takeBack(State state) {
            if (kept == 0) {
                return false;
            }
            kept--;
            next = (next + MOST_UNDONE - 1) % MOST_UNDONE;
            state.copyFrom(row[next]);
            return true;
        }
    }

    /** The LINES of a BOOK, and what the latest one came to. */
    private static final class Book {
        private int lines;
        private final int[] verb = new int[MOST_LINES];
        private final int[] who = new int[MOST_LINES];
        private final int[] what = new int[MOST_LINES];
        private final int[] side = new int[MOST_LINES];

        int toldWhy = NONE;
        int toldLines = NONE;
        int toldDay = NONE;
        int toldHeap = NONE;

        boolean readFrom(Reader r, Order order) {
            lines = 0;
            for (int i = 0; i <= MOST_LINES && !r.isOver(); i++) {
                if (!readLine(r, order) || !r.passMark(';')) {
                    return false;
                }
                lines++;
            }
            return true;
        }

        private boolean readLine(Reader r, Order order) {
            switch (r.word) {
                case FILE: return readFile(r, order);
                case DAY: return readDay(r);
                default: return readDeed(r, order);
            }
        }

        /** A 41st LINE is refused, but only where its first WORD has no lesser FAULT. */
        private boolean isRoom(Reader r) {
            return lines < MOST_LINES || r.refuse(TOO_MANY);
        }

        private boolean readFile(Reader r, Order order) {
            if (!isRoom(r)) {
                return false;
            }
            r.advance();
            int g = order.graterAt(r);
            if (g == NONE) {
                return false;
            }
            r.advance();
            addLine(FILES, g, 0, 0);
            return true;
        }

        private boolean readDay(Reader r) {
            if (!isRoom(r)) {
                return false;
            }
            r.advance();
            int n = r.passNumber(1, MOST_DAYS_AT_ONCE);
            if (n == NONE) {
                return false;
            }
            addLine(DAYS, n, 0, 0);
            return true;
        }

        private boolean readDeed(Reader r, Order order) {
            int b = order.brotherAt(r);
            if (b == NONE || !isRoom(r)) {
                return false;
            }
            r.advance();
            switch (r.word) {
                case GRATES: return readGrates(r, order, b);
                case TAKES: return readTakes(r, order, b);
                case PUTS: return readPuts(r, b);
                case SWAPS: return readSwaps(r, order, b);
                default: return r.refuse(NO_TOKEN);
            }
        }

        private boolean readGrates(Reader r, Order order, int b) {
            r.advance();
            int c = order.brotherAt(r);
            if (c == NONE) {
                return false;
            }
            r.advance();
            int on = sideOf(r.word);
            if (on == NONE) {
                return r.refuse(NO_TOKEN);
            }
            r.advance();
            addLine(GRATES, b, c, on);
            return true;
        }

        private static int sideOf(Word word) {
            switch (word) {
                case FINE: return FINE;
                case COARSE: return COARSE;
                case SLICE: return SLICE;
                default: return NONE;
            }
        }

        private boolean readTakes(Reader r, Order order, int b) {
            r.advance();
            int g = order.graterAt(r);
            if (g == NONE) {
                return false;
            }
            r.advance();
            addLine(TAKES, b, g, 0);
            return true;
        }

        private boolean readPuts(Reader r, int b) {
            r.advance();
            addLine(PUTS, b, 0, 0);
            return true;
        }

        private boolean readSwaps(Reader r, Order order, int b) {
            r.advance();
            int c = order.brotherAt(r);
            if (c == NONE) {
                return false;
            }
            r.advance();
            addLine(SWAPS, b, c, 0);
            return true;
        }

        /** The LINE is counted when its semicolon has come. */
        private void addLine(int newVerb, int newWho, int newWhat, int newSide) {
            if (lines < MOST_LINES) {
                verb[lines] = newVerb;
                who[lines] = newWho;
                what[lines] = newWhat;
                side[lines] = newSide;
            }
        }

        /** Lives the LINES as far as none is WRONG: which one is, or NONE. */
        int live(State state) {
            int why = 0;
            int line = 0;
            while (line < lines && why == 0) {
                why = state.whyNot(verb[line], who[line], what[line], side[line]);
                if (why == 0) {
                    state.act(verb[line], who[line], what[line], side[line]);
                    line++;
                }
            }
            toldWhy = line < lines ? 10 * verb[line] + why : 0;
            toldLines = line;
            toldDay = state.day;
            toldHeap = state.heap;
            return line < lines ? line : NONE;
        }
    }

    /** A SENTENCE as steps, each behind the ones that it joins; without ONES there is none. */
    private static final class Sentence {
        private static final int MOST_STEPS = 2 * MOST_ONES;

        int ones;
        private int steps;
        private final Word[] step = new Word[MOST_STEPS];
        /** The GRATER, or the NUMBER, of a step that has one. */
        private final int[] number = new int[MOST_STEPS];
        /** How the thing of a step compares to its NUMBER: below 0, 0 or above. */
        private final int[] sign = new int[MOST_STEPS];

        Sentence() {
            for (int i = 0; i < MOST_STEPS; i++) {
                step[i] = Word.OTHER;
            }
        }

        void forget() {
            ones = 0;
            steps = 0;
        }

        void copyFrom(Sentence other) {
            ones = other.ones;
            steps = other.steps;
            for (int i = 0; i < MOST_STEPS; i++) {
                step[i] = other.step[i];
                number[i] = other.number[i];
                sign[i] = other.sign[i];
            }
        }

        boolean readFrom(Reader r, Order order) {
            forget();
            return readCond(r, order, 1) && (r.isOver() || r.refuse(NO_TOKEN));
        }

        // A turn of each loop below reads a ONE at least, and the 21st is refused.
        private boolean readCond(Reader r, Order order, int depth) {
            if (!readAll(r, order, depth)) {
                return false;
            }
            for (int i = 0; i < MOST_ONES && r.word == Word.OR; i++) {
                r.advance();
                if (!readAll(r, order, depth)) {
                    return false;
                }
                addStep(Word.OR, 0, 0);
            }
            return true;
        }

        private boolean readAll(Reader r, Order order, int depth) {
            if (!readOne(r, order, depth)) {
                return false;
            }
            for (int i = 0; i < MOST_ONES && r.word == Word.AND; i++) {
                r.advance();
                if (!readOne(r, order, depth)) {
                    return false;
                }
                addStep(Word.AND, 0, 0);
            }
            return true;
        }

        private boolean readOne(Reader r, Order order, int depth) {
            Word first = r.word;
            boolean isBracket = r.isMark('(');
            if (!isBracket && !beginsOne(first)) {
                return r.refuse(NO_TOKEN);
            }
            if (ones >= MOST_ONES || depth > MOST_WITHIN) {
                return r.refuse(TOO_MANY);
            }
            ones++;
            r.advance();
            if (isBracket) {
                return readCond(r, order, depth + 1) && r.passMark(')');
            }
            switch (first) {
                case NOT: return readOne(r, order, depth + 1) && addStep(first, 0, 0);
                case WITH: return readWith(r, order);
                case LEFT: case TODAY: case HURT: case NUMBER: return readMeasure(r, first);
                default: return addStep(first, 0, 0);
            }
        }

        private static boolean beginsOne(Word word) {
            switch (word) {
                case NOT: case GONE: case WHOLE: case ARMED: case ROBBED: case WITH:
                case LEFT: case TODAY: case HURT: case NUMBER:
                    return true;
                default:
                    return false;
            }
        }

        private boolean readWith(Reader r, Order order) {
            int g = order.graterAt(r);
            if (g == NONE) {
                return false;
            }
            r.advance();
            return addStep(Word.WITH, g, 0);
        }

        private boolean readMeasure(Reader r, Word thing) {
            boolean isLess = r.isMark('<');
            boolean isMore = r.isMark('>');
            if (!isLess && !isMore && !r.isMark('=')) {
                return r.refuse(NO_TOKEN);
            }
            r.advance();
            int than = r.passNumber(0, 999);
            if (than == NONE) {
                return false;
            }
            return addStep(thing, than, isLess ? -1 : isMore ? 1 : 0);
        }

        private boolean addStep(Word word, int newNumber, int newSign) {
            if (steps < MOST_STEPS) {
                step[steps] = word;
                number[steps] = newNumber;
                sign[steps] = newSign;
                steps++;
            }
            return true;
        }

        /** The answers that no step has joined yet are bits, the latest one the lowest. */
        boolean isSaidOf(State state, int b) {
            long open = 0;
            for (int i = 0; i < steps; i++) {
                switch (step[i]) {
                    case NOT:
                        open ^= 1;
                        break;
                    case AND:
                        open = open >>> 1 & (open | ~1L);
                        break;
                    case OR:
                        open = open >>> 1 | open & 1;
                        break;
                    default:
                        open = open << 1 | (isSo(i, state, b) ? 1 : 0);
                        break;
                }
            }
            return (open & 1) == 1;
        }

        private boolean isSo(int i, State state, int b) {
            switch (step[i]) {
                case GONE: return state.left[b] == 0;
                case WHOLE: return state.left[b] == state.order.block[b];
                case ARMED: return state.held[b] != NONE;
                case ROBBED: return state.robbedOf(b) > 0;
                case WITH: return state.held[b] == number[i];
                case LEFT: return compares(state.left[b], i);
                case TODAY: return compares(state.today[b], i);
                case HURT: return compares(state.hurt[b], i);
                default: return compares(b, i);
            }
        }

        private boolean compares(int thing, int i) {
            return Integer.compare(thing, number[i]) == sign[i];
        }
    }

    /** The fewest strokes by which just so much falls. */
    private static final class Strokes {
        boolean known;
        final int[] ofSide = new int[SIDES];

        int fewest(State state, int b, int n) {
            int g = state.held[b];
            int fine = g == NONE ? 0 : state.curlOfLarge(g, b, FINE);
            int coarse = g == NONE ? 0 : state.curlOfLarge(g, b, COARSE);
            if (n > 0 && fine == 0) {
                return NONE;
            }
            known = true;
            return divide(n, coarse);
        }

        /** What is not sliced or grated coarse falls fine, one by one: no n is out of reach. */
        private int divide(int n, int coarse) {
            setSides(n, 0, 0);
            int least = n;
            int mostRough = coarse > 0 ? n / coarse : 0;
            for (int slices = 0; slices * 3 <= mostRough; slices++) {
                int rest = n - slices * 3 * coarse;
                for (int rough = 0; rough <= mostRough - slices * 3; rough++) {
                    int smooth = rest - rough * coarse;
                    if (slices + rough + smooth < least) {
                        least = slices + rough + smooth;
                        setSides(smooth, rough, slices);
                    }
                }
            }
            return least;
        }

        private void setSides(int fine, int coarse, int slices) {
            ofSide[FINE] = fine;
            ofSide[COARSE] = coarse;
            ofSide[SLICE] = slices;
        }
    }

    /** The rows of coarse strokes that a heap may be made of, and whom to look at. */
    private static final class Heaps {
        private static final int MOST_STROKES = 3;

        private int brothers;
        private boolean found;
        private final int[] most = new int[MOST_BROTHERS];
        private final int[] each = new int[MOST_BROTHERS];
        private final int[] row = new int[MOST_BROTHERS];
        private final int[][] rowsBy = new int[MOST_BROTHERS][MOST_STROKES + 1];

        int toldBrothers;
        int toldLook = NONE;
        final int[] first = new int[MOST_BROTHERS];

        int countRows(State state, int n) {
            brothers = state.order.brothers;
            found = false;
            for (int b = 0; b < brothers; b++) {
                int g = state.held[b];
                most[b] = g == NONE ? 0 : MOST_STROKES;
                each[b] = g == NONE ? 0 : state.curlOfLarge(g, b, COARSE);
                Arrays.fill(rowsBy[b], 0);
            }
            int rows = rowsFrom(0, n);
            if (rows > 0) {
                toldBrothers = brothers;
                toldLook = mostTelling();
            }
            return rows;
        }

        /** Rows of the BROTHERS from b on by which the rest falls; the fewest strokes come first. */
        private int rowsFrom(int b, int rest) {
            if (rest < 0) {
                return 0;
            }
            if (b >= brothers) {
                return rest == 0 ? closeRow() : 0;
            }
            int rows = 0;
            for (int strokes = 0; strokes <= most[b]; strokes++) {
                row[b] = strokes;
                int further = rowsFrom(b + 1, rest - strokes * each[b]);
                rowsBy[b][strokes] += further;
                rows += further;
            }
            return rows;
        }

        private int closeRow() {
            if (!found) {
                found = true;
                System.arraycopy(row, 0, first, 0, MOST_BROTHERS);
            }
            return 1;
        }

        private int mostTelling() {
            int best = NONE;
            int least = 0;
            for (int b = 0; b < brothers; b++) {
                int greatest = 0;
                for (int strokes = 0; strokes <= MOST_STROKES; strokes++) {
                    greatest = Math.max(greatest, rowsBy[b][strokes]);
                }
                if (best == NONE || greatest < least) {
                    best = b;
                    least = greatest;
                }
            }
            return best;
        }
    }

    /** GRATERS dealt anew so that what falls is least off 'even'. */
    private static final class Deal {
        private static final int SETS = 1 << MOST_GRATERS;

        int toldBrothers;
        final int[] graterOf = new int[MOST_BROTHERS];
        /** The least sum of the BROTHERS from one on, by the set of GRATERS dealt ahead of him. */
        private final int[][] least = new int[MOST_BROTHERS + 1][SETS];

        int leastSum(State state) {
            int brothers = state.order.brothers;
            int sets = 1 << state.order.graters;
            Arrays.fill(least[brothers], 0);
            for (int b = brothers - 1; b >= 0; b--) {
                for (int dealt = 0; dealt < sets; dealt++) {
                    least[b][dealt] = sumWith(state, b, dealt, choose(state, b, dealt));
                }
            }
            int dealt = 0;
            for (int b = 0; b < brothers; b++) {
                int g = choose(state, b, dealt);
                graterOf[b] = g;
                dealt |= g == NONE ? 0 : 1 << g;
            }
            toldBrothers = brothers;
            return least[0][0];
        }

        /** The least GRATER of those by which the sum is the least, none behind all. */
        private int choose(State state, int b, int dealt) {
            int chosen = NONE;
            int best = sumWith(state, b, dealt, NONE);
            for (int g = state.order.graters - 1; g >= 0; g--) {
                int sum = (dealt & 1 << g) == 0 ? sumWith(state, b, dealt, g) : best + 1;
                if (sum <= best) {
                    chosen = g;
                    best = sum;
                }
            }
            return chosen;
        }

        private int sumWith(State state, int b, int dealt, int g) {
            int falls = g == NONE ? 0 : state.curlOf(g, b, COARSE);
            int further = g == NONE ? dealt : dealt | 1 << g;
            return Math.abs(falls - state.order.even) + least[b + 1][further];
        }
    }

    /** The latest TAG. */
    private static final class Tag {
        /** Two NAMES, two numbers and the words between them. */
        private static final int MOST_TAG = 7 + 5 + 3 + 4 + 3 + 4 + 7;

        int length;
        final int[] text = new int[MOST_TAG];

        int write(State state, int b) {
            length = 0;
            addName(state.order.brotherName[b]);
            addText(" has ");
            addDigits(state.left[b]);
            addText(" of ");
            addDigits(state.order.block[b]);
            int g = state.held[b];
            if (g != NONE) {
                addText(" by ");
                addName(state.order.graterName[g]);
            }
            return length;
        }

        private void addName(long name) {
            for (int shift = 48; shift >= 0; shift -= 8) {
                int letter = (int) (name >>> shift) & 255;
                if (letter != 0) {
                    addSign(letter);
                }
            }
        }

        private void addText(String words) {
            for (int i = 0; i < words.length(); i++) {
                addSign(words.charAt(i));
            }
        }

        private void addDigits(int number) {
            for (int unit = 100; unit > 0; unit /= 10) {
                if (number >= unit || unit == 1) {
                    addSign('0' + number / unit % 10);
                }
            }
        }

        private void addSign(int sign) {
            if (length < text.length) {
                text[length] = sign;
                length++;
            }
        }
    }
}
