import java.util.Arrays;

/** A desk that makes a scanner and a parser out of a typed text, and reads streams of bytes with them. */
public final class GrammarStream {
    public static final int BAD = -1;
    public static final int FULL = -2;
    public static final int CONFLICT = -3;

    private static final int TAPE_ROOM = 2000;
    private static final int STREAM_ROOM = 4000;
    private static final int MOST_BYTES_A_CALL = 8;
    private static final int LONGEST_NAME = 12;
    private static final int LONGEST_ROW = 8;
    private static final int DEEPEST_BRACKET = 20;
    private static final int MOST_TOKENS = 24;
    private static final int MOST_SYMBOLS = 30;
    private static final int MOST_RULES = 60;
    private static final int MOST_PLACES = 600;
    private static final int MOST_STATES = 400;
    private static final int MOST_NOTED = 20000;
    private static final int PILE_ROOM = 6000;
    private static final int LONGEST_COUNT = 40;

    /** A statement has three bytes at least, so the tape never tells more names than these. */
    private static final int MOST_NAMES = TAPE_ROOM / 3 + 1;
    /** No expression takes a byte outside 9 .. 126: escapes give 9, 10 and 32, all else is above. */
    private static final int LOWEST_BYTE = 9;
    private static final int BYTE_KINDS = 118;
    private static final int FIRST_SEEN_BYTE = 32;
    private static final int LAST_SEEN_BYTE = 126;
    private static final int ALL_BYTES = 256;
    /** Longs that hold a bit for each place. */
    private static final int WORDS = (MOST_PLACES + 63) / 64;
    private static final int BUCKETS = 1024;
    /** One token more than there may be, for THE END. */
    private static final int CELL_WIDTH = MOST_TOKENS + 1;
    /** A row holds a token's number, or this less a symbol's number. */
    private static final int SYMBOL_MARK = -1000;
    /** Above the number of pairs of symbol and token, one of which each round of a closure adds. */
    private static final int MOST_ROUNDS = 1000;
    private static final int FAULT_MARK = -10;

    private static final int ERROR_NO_TOKEN = 1;
    private static final int ERROR_NO_FIT = 2;
    private static final int ERROR_NO_ROOM = 3;

    private final int[] tape = new int[TAPE_ROOM];
    private int typed = 0;
    private final int[] clash = new int[4];
    private boolean clashed = false;
    private TextReader reader = null;
    private MachineMaker maker = null;
    /** Null as long as nothing is made. */
    private Grammar made = null;
    /** A failed build() must leave what there was, so each build() works on this one. */
    private Grammar spare = null;
    private Reading reading = null;
    private Counts counts = null;

    public GrammarStream() {
    }

    public int type(long bytes, int n) {
        if (n < 1 || n > MOST_BYTES_A_CALL) {
            return BAD;
        }
        if (typed + n > TAPE_ROOM) {
            return FULL;
        }
        for (int k = n - 1; k >= 0; k--) {
            tape[typed] = byteOf(bytes, k);
            typed++;
        }
        return typed;
    }

    public int build() {
        int length = typed;
        typed = 0;
        clashed = false;
        makeRows();
        if (reader == null || maker == null || spare == null) {
            return BAD;
        }
        if (!reader.readTape(tape, length) || !tellsRowsOfAll(reader, spare)) {
            return FAULT_MARK - reader.faultPlace;
        }
        if (!maker.makeMachine(reader.places, spare.machine)) {
            return FULL;
        }
        spare.makeSets();
        clashed = spare.fillCells(clash);
        if (clashed) {
            return CONFLICT;
        }
        putInPlace(spare);
        return 0;
    }

    public int fault(int what) {
        if (what < 0 || what > 1) {
            return BAD;
        }
        if (reader == null) {
            return 0;
        }
        return what == 0 ? reader.faultNumber : reader.faultPlace;
    }

    public int conflict(int what) {
        return clashed && what >= 0 && what < clash.length ? clash[what] : BAD;
    }

    public boolean first(int symbol, int token) {
        return made != null && made.hasSymbol(symbol) && made.hasToken(token)
                && hasBit(made.firsts[symbol], token);
    }

    public boolean follow(int symbol, int token) {
        return made != null && made.hasCell(symbol, token) && hasBit(made.follows[symbol], token);
    }

    public boolean empty(int symbol) {
        return made != null && made.hasSymbol(symbol) && hasBit(made.empties, symbol);
    }

    public int cell(int symbol, int token) {
        return made != null && made.hasCell(symbol, token) ? made.ruleFor(symbol, token) : BAD;
    }

    public int many(int what) {
        if (what < 0 || what > 6) {
            return BAD;
        }
        if (what == 6) {
            return typed;
        }
        if (made == null) {
            return 0;
        }
        switch (what) {
            case 0:
                return made.tokenCount;
            case 1:
                return made.symbolCount;
            case 2:
                return made.ruleCount;
            case 3:
                return made.machine.placeCount;
            case 4:
                return made.machine.stateCount;
            default:
                return made.machine.hopefulCount;
        }
    }

    public int rule(int rule, int what) {
        if (made == null || rule < 0 || rule >= made.ruleCount || what < 0) {
            return BAD;
        }
        if (what == 0) {
            return made.ruleSymbol[rule];
        }
        if (what == 1) {
            return made.ruleLength[rule];
        }
        int k = what - 2;
        return k < made.ruleLength[rule] ? made.itemAt(rule, k) : BAD;
    }

    public int token(int token, int what) {
        if (made == null || !made.hasToken(token) || what < 0 || what > 1) {
            return BAD;
        }
        if (what == 0) {
            return made.skipped[token] ? 1 : 0;
        }
        return made.machine.shortest[token];
    }

    public long count(int n) {
        if (made == null || n < 0 || n > LONGEST_COUNT) {
            return -1;
        }
        if (counts == null) {
            counts = new Counts();
        }
        return counts.rowsOf(made, n);
    }

    public int feed(long bytes, int n) {
        if (n < 1 || n > MOST_BYTES_A_CALL || reading == null || reading.finished) {
            return BAD;
        }
        if (reading.length + n > STREAM_ROOM) {
            return FULL;
        }
        for (int k = n - 1; k >= 0; k--) {
            reading.append(byteOf(bytes, k));
        }
        reading.lookOn();
        return reading.error;
    }

    public int finish() {
        if (reading == null) {
            return BAD;
        }
        reading.end();
        return reading.error;
    }

    public int reset() {
        if (reading == null || made == null) {
            return BAD;
        }
        int length = reading.length;
        reading.start(made);
        return length;
    }

    public int stream(int what) {
        if (what < 0 || what > 6) {
            return BAD;
        }
        if (reading == null) {
            return what == 2 ? BAD : 0;
        }
        switch (what) {
            case 0:
                return reading.length;
            case 1:
                return reading.error;
            case 2:
                return reading.error == 0 ? BAD : reading.errorPlace;
            case 3:
                return reading.finished ? 1 : 0;
            case 4:
                return reading.foundCount;
            case 5:
                return reading.parser.notedCount;
            default:
                return reading.parser.height;
        }
    }

    public int found(int k, int what) {
        if (reading == null || k < 0 || k >= reading.foundCount) {
            return BAD;
        }
        switch (what) {
            case 0:
                return reading.foundToken[k];
            case 1:
                return reading.foundBegin[k];
            case 2:
                return reading.foundEnd[k];
            default:
                return BAD;
        }
    }

    public int noted(int k, int what) {
        if (reading == null || k < 0 || k >= reading.parser.notedCount) {
            return BAD;
        }
        switch (what) {
            case 0:
                return reading.parser.notedRule[k];
            case 1:
                return reading.parser.notedParent[k];
            case 2:
                return reading.parser.notedSpot[k];
            case 3:
                return reading.parser.notedGone[k];
            default:
                return BAD;
        }
    }

    public boolean expected(int token) {
        if (made == null || reading == null || reading.error != 0 || reading.finished) {
            return false;
        }
        if (token != made.tokenCount && (!made.hasToken(token) || made.skipped[token])) {
            return false;
        }
        return reading.parser.wouldTake(token);
    }

    /** Rows are made when they are first needed, so that a desk without a text stays small. */
    private void makeRows() {
        if (reader == null) {
            reader = new TextReader();
        }
        if (maker == null) {
            maker = new MachineMaker();
        }
        if (spare == null) {
            spare = new Grammar();
        }
    }

    private static boolean tellsRowsOfAll(TextReader text, Grammar grammar) {
        grammar.load(text.outline);
        int barren = grammar.firstBarren();
        if (barren < 0) {
            return true;
        }
        text.tellFault(9, text.outline.symbols.places[barren]);
        return false;
    }

    private void putInPlace(Grammar fresh) {
        spare = made;
        made = fresh;
        if (reading == null) {
            reading = new Reading(fresh);
        }
        reading.start(fresh);
        if (counts != null) {
            counts.forget();
        }
    }

    private static int byteOf(long bytes, int k) {
        return (int) (bytes >>> (8 * k)) & 255;
    }

    private static boolean hasBit(int set, int k) {
        return (set >>> k & 1) != 0;
    }

    private static boolean isSmall(int c) {
        return c >= 'a' && c <= 'z';
    }

    private static boolean isBig(int c) {
        return c >= 'A' && c <= 'Z';
    }

    /** Names of the text by where they stand; a name's number is its place in these rows. */
    private static final class Names {
        final int[] places;
        final int[] lengths;
        int size = 0;

        Names(int room) {
            int held = Math.max(room, 0);
            places = new int[held];
            lengths = new int[held];
        }

        int indexOf(int[] tape, int place, int length) {
            for (int k = 0; k < size; k++) {
                if (lengths[k] == length && sameBytes(tape, places[k], place, length)) {
                    return k;
                }
            }
            return -1;
        }

        void add(int place, int length) {
            if (size < places.length) {
                places[size] = place;
                lengths[size] = length;
                size++;
            }
        }

        private static boolean sameBytes(int[] tape, int one, int other, int length) {
            for (int k = 0; k < length; k++) {
                if (tape[one + k] != tape[other + k]) {
                    return false;
                }
            }
            return true;
        }
    }

    /** What a text tells: its tokens, symbols and rules, and the names in the rules' rows. */
    private static final class Outline {
        final Names tokens = new Names(MOST_NAMES);
        final boolean[] skipped = new boolean[MOST_NAMES];
        final Names symbols = new Names(MOST_NAMES);
        final Names items = new Names(TAPE_ROOM);
        final int[] itemValue = new int[TAPE_ROOM];
        final int[] ruleSymbol = new int[MOST_RULES];
        final int[] ruleStart = new int[MOST_RULES];
        final int[] ruleLength = new int[MOST_RULES];
        /** Counts the rules for which there is no room, too. */
        int ruleCount = 0;

        void clear() {
            tokens.size = 0;
            symbols.size = 0;
            items.size = 0;
            ruleCount = 0;
        }

        void addToken(int place, int length, boolean isSkipped) {
            if (tokens.size < skipped.length) {
                skipped[tokens.size] = isSkipped;
            }
            tokens.add(place, length);
        }

        void startRule(int symbol) {
            if (ruleCount < MOST_RULES) {
                ruleSymbol[ruleCount] = symbol;
                ruleStart[ruleCount] = items.size;
                ruleLength[ruleCount] = 0;
            }
            ruleCount++;
        }

        void addItem(int place, int length) {
            items.add(place, length);
            if (ruleCount >= 1 && ruleCount <= MOST_RULES) {
                ruleLength[ruleCount - 1]++;
            }
        }
    }

    /** A part of an expression: whether no bytes are of it, and the places that can begin and end it. */
    private static final class Piece {
        boolean takesNothing = false;
        final long[] heads = new long[WORDS];
        final long[] tails = new long[WORDS];

        /** Without any row of bytes (what alternatives are added to), or with the row of no bytes. */
        void clear(boolean withNoBytes) {
            takesNothing = withNoBytes;
            Arrays.fill(heads, 0L);
            Arrays.fill(tails, 0L);
        }

        void setPlace(int place) {
            takesNothing = false;
            for (int w = 0; w < WORDS; w++) {
                long bits = place / 64 == w ? 1L << (place % 64) : 0L;
                heads[w] = bits;
                tails[w] = bits;
            }
        }

        void orElse(Piece other) {
            takesNothing = takesNothing || other.takesNothing;
            addAll(heads, other.heads);
            addAll(tails, other.tails);
        }

        void andThen(Piece other) {
            if (takesNothing) {
                addAll(heads, other.heads);
            }
            if (!other.takesNothing) {
                Arrays.fill(tails, 0L);
            }
            addAll(tails, other.tails);
            takesNothing = takesNothing && other.takesNothing;
        }

        private static void addAll(long[] to, long[] from) {
            for (int w = 0; w < WORDS; w++) {
                to[w] |= from[w];
            }
        }
    }

    /** The atoms of all expressions: the bytes they take, and which can come next behind which. */
    private static final class Places {
        /** Counts those for which there is no room, too. */
        int size = 0;
        final long[] takers = new long[BYTE_KINDS * WORDS];
        final long[] nexts = new long[MOST_PLACES * WORDS];
        final long[] heads = new long[WORDS];
        /** The token whose expression can end with a place, or -1. */
        final int[] endOf = new int[MOST_PLACES];

        void clear() {
            size = 0;
            Arrays.fill(takers, 0L);
            Arrays.fill(heads, 0L);
        }

        int held() {
            return size < MOST_PLACES ? size : MOST_PLACES;
        }

        int wordsUsed() {
            return (held() + 63) / 64;
        }

        int add(boolean[] taken) {
            int place = size;
            size++;
            if (place >= MOST_PLACES) {
                return place;
            }
            endOf[place] = -1;
            for (int w = 0; w < WORDS; w++) {
                nexts[place * WORDS + w] = 0L;
            }
            for (int kind = 0; kind < BYTE_KINDS; kind++) {
                if (taken[LOWEST_BYTE + kind]) {
                    takers[kind * WORDS + place / 64] |= 1L << (place % 64);
                }
            }
            return place;
        }

        void link(long[] from, long[] to) {
            int places = held();
            int words = wordsUsed();
            for (int place = 0; place < places; place++) {
                if (holdsPlace(from, 0, place)) {
                    for (int w = 0; w < words; w++) {
                        nexts[place * WORDS + w] |= to[w];
                    }
                }
            }
        }

        void closeToken(int token, Piece whole) {
            for (int w = 0; w < WORDS; w++) {
                heads[w] |= whole.heads[w];
            }
            int places = held();
            for (int place = 0; place < places; place++) {
                if (holdsPlace(whole.tails, 0, place)) {
                    endOf[place] = token;
                }
            }
        }

        static boolean holdsPlace(long[] sets, int base, int place) {
            return (sets[base + place / 64] >>> (place % 64) & 1L) != 0;
        }
    }

    /** Reads a tape into an outline and places, and holds the first fault of it. */
    private static final class TextReader {
        int faultNumber = 0;
        int faultPlace = 0;
        final Outline outline = new Outline();
        final Places places = new Places();
        private int[] tape = new int[0];
        private int length = 0;
        private int at = 0;
        /** One piece of each kind for each depth of brackets, so that reading makes nothing. */
        private final Piece[] wholes = newPieces();
        private final Piece[] parts = newPieces();
        private final Piece[] ones = newPieces();
        private final boolean[] taken = new boolean[ALL_BYTES];

        private static Piece[] newPieces() {
            Piece[] pieces = new Piece[DEEPEST_BRACKET + 1];
            for (int k = 0; k < pieces.length; k++) {
                pieces[k] = new Piece();
            }
            return pieces;
        }

        /** Whether the text has none of the faults 1 to 8. */
        boolean readTape(int[] bytes, int size) {
            start(bytes, size);
            boolean fine = true;
            int c = peek();
            for (int n = 0; n <= length && fine && c >= 0; n++) {
                boolean isSkipped = c == '-';
                if (isSkipped) {
                    at++;
                    c = peek();
                }
                fine = isSmall(c) ? readToken(isSkipped) : isBig(c) && !isSkipped && readRules();
                c = fine ? peek() : -1;
            }
            if (!fine) {
                // A fault 1 goes before all others, wherever they are.
                faultNumber = 0;
                tellFault(1, at);
                return false;
            }
            findItems();
            if (faultNumber == 0 && outline.symbols.size == 0) {
                tellFault(8, length);
            }
            return faultNumber == 0;
        }

        void tellFault(int number, int place) {
            boolean sooner = place < faultPlace || place == faultPlace && number < faultNumber;
            if (faultNumber == 0 || sooner) {
                faultNumber = number;
                faultPlace = place;
            }
        }

        private void start(int[] bytes, int size) {
            tape = bytes;
            length = Math.min(size, bytes.length);
            at = 0;
            faultNumber = 0;
            faultPlace = 0;
            outline.clear();
            places.clear();
        }

        /** All reading answers false where no text goes on so; then at is that place. */
        private boolean readToken(boolean isSkipped) {
            int start = at;
            if (!passName()) {
                return false;
            }
            int token = numberOfToken(start, at - start, isSkipped);
            if (!pass('=')) {
                return false;
            }
            peek();
            int expStart = at;
            if (!readExp(0) || !pass(';')) {
                return false;
            }
            if (wholes[0].takesNothing) {
                tellFault(6, expStart);
            }
            places.closeToken(token, wholes[0]);
            return true;
        }

        private int numberOfToken(int place, int size, boolean isSkipped) {
            int known = outline.tokens.indexOf(tape, place, size);
            if (known >= 0) {
                tellFault(2, place);
                return known;
            }
            outline.addToken(place, size, isSkipped);
            if (outline.tokens.size > MOST_TOKENS) {
                tellFault(7, place);
            }
            return outline.tokens.size - 1;
        }

        private boolean readRules() {
            int start = at;
            if (!passName()) {
                return false;
            }
            int symbol = numberOfSymbol(start, at - start);
            if (!pass(':')) {
                return false;
            }
            for (int n = 0; n <= length; n++) {
                if (!readRow(symbol)) {
                    return false;
                }
                if (peek() != '|') {
                    return pass(';');
                }
                at++;
            }
            return false;
        }

        private int numberOfSymbol(int place, int size) {
            int known = outline.symbols.indexOf(tape, place, size);
            if (known >= 0) {
                return known;
            }
            outline.symbols.add(place, size);
            if (outline.symbols.size > MOST_SYMBOLS) {
                tellFault(7, place);
            }
            return outline.symbols.size - 1;
        }

        private boolean readRow(int symbol) {
            int c = peek();
            outline.startRule(symbol);
            if (outline.ruleCount > MOST_RULES) {
                tellFault(7, at);
            }
            for (int n = 0; n <= LONGEST_ROW && (isSmall(c) || isBig(c)); n++) {
                int start = at;
                if (n >= LONGEST_ROW || !passName()) {
                    return false;
                }
                outline.addItem(start, at - start);
                c = peek();
            }
            return true;
        }

        private void findItems() {
            for (int k = 0; k < outline.items.size; k++) {
                int place = outline.items.places[k];
                int size = outline.items.lengths[k];
                boolean small = isSmall(tape[place]);
                int number = (small ? outline.tokens : outline.symbols).indexOf(tape, place, size);
                if (number < 0) {
                    tellFault(3, place);
                } else if (small && outline.skipped[number]) {
                    tellFault(4, place);
                }
                outline.itemValue[k] = small ? number : SYMBOL_MARK - number;
            }
        }

        private boolean readExp(int depth) {
            Piece whole = wholes[depth];
            Piece part = parts[depth];
            whole.clear(false);
            part.clear(true);
            int onesOfPart = 0;
            for (int n = 0; n <= length; n++) {
                int c = peek();
                if (c == '|' && onesOfPart > 0) {
                    at++;
                    whole.orElse(part);
                    part.clear(true);
                    onesOfPart = 0;
                } else if (!canBeginAtom(c)) {
                    break;
                } else if (!readOne(depth, c)) {
                    return false;
                } else {
                    places.link(part.tails, ones[depth].heads);
                    part.andThen(ones[depth]);
                    onesOfPart++;
                }
            }
            whole.orElse(part);
            return onesOfPart > 0;
        }

        private boolean readOne(int depth, int c) {
            if (!(c == '(' ? readBrackets(depth) : readPlace(depth, c))) {
                return false;
            }
            Piece one = ones[depth];
            int sign = peek();
            if (sign != '*' && sign != '+' && sign != '?') {
                return true;
            }
            at++;
            if (sign != '?') {
                places.link(one.tails, one.heads);
            }
            if (sign != '+') {
                one.takesNothing = true;
            }
            return true;
        }

        private boolean readBrackets(int depth) {
            if (depth >= DEEPEST_BRACKET) {
                return false;
            }
            at++;
            if (!readExp(depth + 1) || !pass(')')) {
                return false;
            }
            ones[depth].clear(false);
            ones[depth].orElse(wholes[depth + 1]);
            return true;
        }

        private boolean readPlace(int depth, int c) {
            clearTaken();
            if (c == '.') {
                at++;
                turnTaken();
            } else if (c == '[') {
                at++;
                if (!readSet()) {
                    return false;
                }
            } else {
                int sign = readByte(c);
                if (sign < 0) {
                    return false;
                }
                taken[sign] = true;
            }
            ones[depth].setPlace(places.add(taken));
            return true;
        }

        private boolean readSet() {
            boolean turned = peek() == '^';
            if (turned) {
                at++;
            }
            int c = peek();
            for (int n = 0; n <= length && (n == 0 || c != ']'); n++) {
                int start = at;
                int low = canBeginItem(c) ? readByte(c) : -1;
                int high = low;
                if (low >= 0 && peek() == '-') {
                    at++;
                    c = peek();
                    high = canBeginItem(c) ? readByte(c) : -1;
                }
                if (low < 0 || high < 0) {
                    return false;
                }
                if (low > high) {
                    tellFault(5, start);
                }
                takeAll(low, high);
                c = peek();
            }
            if (turned) {
                turnTaken();
            }
            at++;
            return c == ']';
        }

        /** The byte that a SIGN or CH means, or -1; c is what stands there. */
        private int readByte(int c) {
            at++;
            if (c != '\\') {
                return c;
            }
            int escaped = at < length ? tape[at] : -1;
            if (escaped <= ' ' || escaped > LAST_SEEN_BYTE) {
                return -1;
            }
            at++;
            switch (escaped) {
                case 'n':
                    return '\n';
                case 't':
                    return '\t';
                case '_':
                    return ' ';
                default:
                    return escaped;
            }
        }

        private void clearTaken() {
            for (int b = 0; b < ALL_BYTES; b++) {
                taken[b] = false;
            }
        }

        private void takeAll(int low, int high) {
            for (int b = low; b <= high && b < ALL_BYTES; b++) {
                taken[b] = true;
            }
        }

        /** Of the bytes 32 .. 126 those that were not taken, and no other ones. */
        private void turnTaken() {
            for (int b = 0; b < ALL_BYTES; b++) {
                taken[b] = b >= FIRST_SEEN_BYTE && b <= LAST_SEEN_BYTE && !taken[b];
            }
        }

        /** The next byte that is no blank, at which at stands then, or -1 at the end. */
        private int peek() {
            for (; at < length; at++) {
                int c = tape[at];
                if (c != ' ' && c != '\n' && c != '\r' && c != '\t') {
                    return c;
                }
            }
            return -1;
        }

        private boolean pass(int c) {
            if (peek() != c) {
                return false;
            }
            at++;
            return true;
        }

        /** Behind the name whose first byte is at; false at its 13th byte. */
        private boolean passName() {
            boolean big = at < length && isBig(tape[at]);
            for (int n = 0; at < length; n++) {
                int c = tape[at];
                if (!isSmall(c) && !(n > 0 && c >= '0' && c <= '9') && !(big && isBig(c))) {
                    return true;
                }
                if (n == LONGEST_NAME) {
                    return false;
                }
                at++;
            }
            return true;
        }

        private static boolean canBeginItem(int c) {
            return c > ' ' && c <= LAST_SEEN_BYTE && c != ']' && c != '-';
        }

        private static boolean canBeginAtom(int c) {
            switch (c) {
                case ')':
                case ']':
                case '|':
                case '*':
                case '+':
                case '?':
                case ';':
                    return false;
                default:
                    return c > ' ' && c <= LAST_SEEN_BYTE;
            }
        }
    }

    /** The scanner: states with their ways by bytes, and the tokens that they find. */
    private static final class Machine {
        int placeCount = 0;
        int stateCount = 0;
        /** States from which one that finds a token can be come to. */
        int hopefulCount = 0;
        int kindCount = 0;
        /** Bytes that the same places take are of one kind; -1 where no place takes a byte. */
        final int[] kindOf = new int[ALL_BYTES];
        final int[] ways = new int[MOST_STATES * BYTE_KINDS];
        final int[] finds = new int[MOST_STATES];
        final int[] shortest = new int[MOST_TOKENS];

        void clear(int places) {
            placeCount = places;
            stateCount = 0;
            hopefulCount = 0;
            kindCount = 0;
            Arrays.fill(kindOf, -1);
            Arrays.fill(shortest, 0);
        }

        /** The state by a byte, or -1 where the machine is stuck. */
        int stateBy(int state, int b) {
            if (state < 0 || state >= stateCount || b < 0 || b >= ALL_BYTES || kindOf[b] < 0) {
                return -1;
            }
            return ways[state * BYTE_KINDS + kindOf[b]];
        }
    }

    /** Makes a machine out of places; what only this needs is here, once for all machines. */
    private static final class MachineMaker {
        private static final int STUCK = -1;
        private static final int NO_ROOM = -2;

        private final long[] sets = new long[MOST_STATES * WORDS];
        private final int[] depths = new int[MOST_STATES];
        private final int[] bucketHead = new int[BUCKETS];
        private final int[] bucketNext = new int[MOST_STATES];
        private final boolean[] hopeful = new boolean[MOST_STATES];
        private final int[] sampleKind = new int[BYTE_KINDS];
        private final long[] coming = new long[WORDS];
        private final long[] reached = new long[WORDS];
        private int words = 0;

        /** False when there would be too many places or states. */
        boolean makeMachine(Places places, Machine machine) {
            if (places.size > MOST_PLACES) {
                return false;
            }
            words = places.wordsUsed();
            machine.clear(places.size);
            sortBytes(places, machine);
            Arrays.fill(bucketHead, -1);
            // The first state holds no place and is not one that bytes lead to: it has no bucket.
            machine.finds[0] = -1;
            machine.stateCount = 1;
            depths[0] = 0;
            for (int state = 0; state < machine.stateCount && state < MOST_STATES; state++) {
                if (!findWays(places, machine, state)) {
                    return false;
                }
            }
            countHopeful(machine);
            return true;
        }

        private void sortBytes(Places places, Machine machine) {
            for (int k = 0; k < BYTE_KINDS; k++) {
                if (isTaken(places, k)) {
                    int kind = 0;
                    while (kind < machine.kindCount && !sameTakers(places, sampleKind[kind], k)) {
                        kind++;
                    }
                    if (kind == machine.kindCount) {
                        sampleKind[kind] = k;
                        machine.kindCount++;
                    }
                    machine.kindOf[LOWEST_BYTE + k] = kind;
                }
            }
        }

        private boolean isTaken(Places places, int k) {
            long any = 0;
            for (int w = 0; w < words; w++) {
                any |= places.takers[k * WORDS + w];
            }
            return any != 0;
        }

        private boolean sameTakers(Places places, int one, int other) {
            for (int w = 0; w < words; w++) {
                if (places.takers[one * WORDS + w] != places.takers[other * WORDS + w]) {
                    return false;
                }
            }
            return true;
        }

        private boolean findWays(Places places, Machine machine, int state) {
            gatherComing(places, state);
            for (int kind = 0; kind < machine.kindCount; kind++) {
                int to = stateFor(places, machine, sampleKind[kind], depths[state] + 1);
                if (to == NO_ROOM) {
                    return false;
                }
                machine.ways[state * BYTE_KINDS + kind] = to;
            }
            return true;
        }

        /** All places that can come next behind a state, whatever the byte. */
        private void gatherComing(Places places, int state) {
            if (state == 0) {
                System.arraycopy(places.heads, 0, coming, 0, WORDS);
                return;
            }
            Arrays.fill(coming, 0L);
            for (int place = 0; place < places.size; place++) {
                if (Places.holdsPlace(sets, state * WORDS, place)) {
                    for (int w = 0; w < words; w++) {
                        coming[w] |= places.nexts[place * WORDS + w];
                    }
                }
            }
        }

        private int stateFor(Places places, Machine machine, int byteKind, int depth) {
            long any = 0;
            long mix = 0;
            for (int w = 0; w < words; w++) {
                reached[w] = coming[w] & places.takers[byteKind * WORDS + w];
                any |= reached[w];
                mix = (mix ^ reached[w]) * 0x9E3779B97F4A7C15L;
                mix ^= mix >>> 29;
            }
            if (any == 0) {
                return STUCK;
            }
            int bucket = (int) (mix & (BUCKETS - 1));
            int state = bucketHead[bucket];
            for (int n = 0; n < MOST_STATES && state >= 0; n++) {
                if (isReached(state)) {
                    return state;
                }
                state = bucketNext[state];
            }
            return addState(places, machine, bucket, depth);
        }

        private boolean isReached(int state) {
            for (int w = 0; w < words; w++) {
                if (sets[state * WORDS + w] != reached[w]) {
                    return false;
                }
            }
            return true;
        }

        private int addState(Places places, Machine machine, int bucket, int depth) {
            int state = machine.stateCount;
            if (state >= MOST_STATES) {
                return NO_ROOM;
            }
            machine.stateCount++;
            System.arraycopy(reached, 0, sets, state * WORDS, words);
            depths[state] = depth;
            bucketNext[state] = bucketHead[bucket];
            bucketHead[bucket] = state;
            int token = tokenFound(places);
            machine.finds[state] = token;
            // States come in the order of their depth, so the first one has the shortest row.
            if (token >= 0 && token < MOST_TOKENS && machine.shortest[token] == 0) {
                machine.shortest[token] = depth;
            }
            return state;
        }

        private int tokenFound(Places places) {
            int token = -1;
            for (int place = 0; place < places.size; place++) {
                int ended = places.endOf[place];
                if (ended >= 0 && (token < 0 || ended < token) && Places.holdsPlace(reached, 0, place)) {
                    token = ended;
                }
            }
            return token;
        }

        private void countHopeful(Machine machine) {
            for (int state = 0; state < machine.stateCount; state++) {
                hopeful[state] = false;
            }
            boolean grows = true;
            for (int round = 0; grows && round <= MOST_STATES; round++) {
                grows = false;
                for (int state = machine.stateCount - 1; state >= 0; state--) {
                    if (!hopeful[state] && hasHope(machine, state)) {
                        hopeful[state] = true;
                        machine.hopefulCount++;
                        grows = true;
                    }
                }
            }
        }

        private boolean hasHope(Machine machine, int state) {
            if (machine.finds[state] >= 0) {
                return true;
            }
            for (int kind = 0; kind < machine.kindCount; kind++) {
                int to = machine.ways[state * BYTE_KINDS + kind];
                if (to >= 0 && hopeful[to]) {
                    return true;
                }
            }
            return false;
        }
    }

    /** What a text is made into: the machine, the rules, and what follows from them. Sets are bits of ints. */
    private static final class Grammar {
        final Machine machine = new Machine();
        int tokenCount = 0;
        int symbolCount = 0;
        int ruleCount = 0;
        final boolean[] skipped = new boolean[MOST_TOKENS];
        final int[] ruleSymbol = new int[MOST_RULES];
        final int[] ruleLength = new int[MOST_RULES];
        private final int[] items = new int[MOST_RULES * LONGEST_ROW];
        int empties = 0;
        final int[] firsts = new int[MOST_SYMBOLS];
        final int[] follows = new int[MOST_SYMBOLS];
        private final int[] cells = new int[MOST_SYMBOLS * CELL_WIDTH];

        /** Takes an outline without faults. */
        void load(Outline outline) {
            tokenCount = Math.min(outline.tokens.size, MOST_TOKENS);
            symbolCount = Math.min(outline.symbols.size, MOST_SYMBOLS);
            ruleCount = Math.min(outline.ruleCount, MOST_RULES);
            for (int token = 0; token < tokenCount; token++) {
                skipped[token] = outline.skipped[token];
            }
            for (int rule = 0; rule < ruleCount; rule++) {
                ruleSymbol[rule] = outline.ruleSymbol[rule];
                ruleLength[rule] = Math.min(outline.ruleLength[rule], LONGEST_ROW);
                System.arraycopy(outline.itemValue, outline.ruleStart[rule],
                        items, rule * LONGEST_ROW, ruleLength[rule]);
            }
        }

        boolean hasToken(int token) {
            return token >= 0 && token < tokenCount;
        }

        boolean hasSymbol(int symbol) {
            return symbol >= 0 && symbol < symbolCount;
        }

        /** THE END has cells, too. */
        boolean hasCell(int symbol, int token) {
            return hasSymbol(symbol) && token >= 0 && token <= tokenCount;
        }

        int ruleFor(int symbol, int token) {
            return cells[symbol * CELL_WIDTH + token];
        }

        int itemAt(int rule, int k) {
            return items[rule * LONGEST_ROW + k];
        }

        /** The first symbol from which no row of tokens comes, or -1. */
        int firstBarren() {
            int fertile = spread(true);
            for (int symbol = 0; symbol < symbolCount; symbol++) {
                if (!hasBit(fertile, symbol)) {
                    return symbol;
                }
            }
            return -1;
        }

        void makeSets() {
            empties = spread(false);
            makeFirsts();
            makeFollows();
        }

        /** The symbols from which a row comes that has no symbols and, unless they are wanted, no tokens. */
        private int spread(boolean withTokens) {
            int marked = 0;
            boolean grows = true;
            for (int round = 0; grows && round <= MOST_SYMBOLS; round++) {
                int before = marked;
                for (int rule = 0; rule < ruleCount; rule++) {
                    if (isWithin(rule, 0, marked, withTokens)) {
                        marked |= 1 << ruleSymbol[rule];
                    }
                }
                grows = marked != before;
            }
            return marked;
        }

        private boolean isWithin(int rule, int from, int marked, boolean withTokens) {
            for (int k = from; k < ruleLength[rule]; k++) {
                int item = itemAt(rule, k);
                if (item >= 0 ? !withTokens : !hasBit(marked, SYMBOL_MARK - item)) {
                    return false;
                }
            }
            return true;
        }

        boolean isEmptyFrom(int rule, int from) {
            return isWithin(rule, from, empties, false);
        }

        /** The tokens with which what comes from a row's part begins. */
        private int firstsFrom(int rule, int from) {
            int tokens = 0;
            for (int k = from; k < ruleLength[rule]; k++) {
                int item = itemAt(rule, k);
                if (item >= 0) {
                    return tokens | 1 << item;
                }
                tokens |= firsts[SYMBOL_MARK - item];
                if (!hasBit(empties, SYMBOL_MARK - item)) {
                    return tokens;
                }
            }
            return tokens;
        }

        private void makeFirsts() {
            Arrays.fill(firsts, 0);
            boolean grows = true;
            for (int round = 0; grows && round <= MOST_ROUNDS; round++) {
                grows = false;
                for (int rule = 0; rule < ruleCount; rule++) {
                    int before = firsts[ruleSymbol[rule]];
                    firsts[ruleSymbol[rule]] |= firstsFrom(rule, 0);
                    grows = grows || firsts[ruleSymbol[rule]] != before;
                }
            }
        }

        /** THE END is behind THE START; so FOLLOW of a symbol that comes from THE START is never without one. */
        private void makeFollows() {
            Arrays.fill(follows, 0);
            follows[0] = 1 << tokenCount;
            boolean grows = true;
            for (int round = 0; grows && round <= MOST_ROUNDS; round++) {
                grows = false;
                for (int rule = 0; rule < ruleCount; rule++) {
                    // Rules of symbols that never come from THE START put nothing behind anything.
                    if (follows[ruleSymbol[rule]] != 0 && growFollows(rule)) {
                        grows = true;
                    }
                }
            }
        }

        private boolean growFollows(int rule) {
            boolean grows = false;
            for (int k = 0; k < ruleLength[rule]; k++) {
                int item = itemAt(rule, k);
                if (item < 0) {
                    int symbol = SYMBOL_MARK - item;
                    int before = follows[symbol];
                    follows[symbol] |= firstsFrom(rule, k + 1);
                    if (isEmptyFrom(rule, k + 1)) {
                        follows[symbol] |= follows[ruleSymbol[rule]];
                    }
                    grows = grows || follows[symbol] != before;
                }
            }
            return grows;
        }

        /** Whether there is a conflict; the first one is told in the clash's four elements. */
        boolean fillCells(int[] clash) {
            for (int symbol = 0; symbol < symbolCount; symbol++) {
                for (int token = 0; token <= tokenCount; token++) {
                    int held = nextRuleFor(symbol, token, 0);
                    int other = held < 0 ? -1 : nextRuleFor(symbol, token, held + 1);
                    if (other >= 0) {
                        clash[0] = symbol;
                        clash[1] = token;
                        clash[2] = held;
                        clash[3] = other;
                        return true;
                    }
                    cells[symbol * CELL_WIDTH + token] = held;
                }
            }
            return false;
        }

        private int nextRuleFor(int symbol, int token, int from) {
            for (int rule = from; rule < ruleCount; rule++) {
                if (ruleSymbol[rule] == symbol && (hasBit(firstsFrom(rule, 0), token)
                        || hasBit(follows[symbol], token) && isEmptyFrom(rule, 0))) {
                    return rule;
                }
            }
            return BAD;
        }
    }

    /**
     * How many rows of tokens come from symbols. Cells without conflicts let each row come in one way alone,
     * so ways are counted.
     */
    private static final class Counts {
        private static final int LENGTHS = LONGEST_COUNT + 1;
        private static final int TAILS = LONGEST_ROW + 1;

        private final long[] ofSymbol = new long[MOST_SYMBOLS * LENGTHS];
        /** For the part of a rule's row from each of its places on. */
        private final long[] ofTail = new long[MOST_RULES * TAILS * LENGTHS];
        private final int[] order = new int[MOST_SYMBOLS];
        private int ordered = 0;
        private int known = 0;

        void forget() {
            known = 0;
        }

        /** For the grammar that was asked for since the last forget(). */
        long rowsOf(Grammar grammar, int length) {
            if (known == 0) {
                Arrays.fill(ofSymbol, 0L);
                orderSymbols(grammar);
            }
            for (; known <= length && known < LENGTHS; known++) {
                countLength(grammar, known);
            }
            return length >= 0 && length < LENGTHS ? ofSymbol[length] : 0;
        }

        /**
         * A symbol's rows can be rows of another one as a whole: that one must be counted before it. Symbols
         * that come from THE START never go round in this; others are left out when they do.
         */
        private void orderSymbols(Grammar grammar) {
            ordered = 0;
            int done = 0;
            boolean grows = true;
            for (int round = 0; grows && round <= MOST_SYMBOLS; round++) {
                grows = false;
                for (int symbol = 0; symbol < grammar.symbolCount; symbol++) {
                    if (!hasBit(done, symbol) && needsOnly(grammar, symbol, done)) {
                        done |= 1 << symbol;
                        order[ordered] = symbol;
                        ordered++;
                        grows = true;
                    }
                }
            }
        }

        private static boolean needsOnly(Grammar grammar, int symbol, int done) {
            for (int rule = 0; rule < grammar.ruleCount; rule++) {
                if (grammar.ruleSymbol[rule] == symbol && !rowNeedsOnly(grammar, rule, done)) {
                    return false;
                }
            }
            return true;
        }

        private static boolean rowNeedsOnly(Grammar grammar, int rule, int done) {
            boolean emptyBefore = true;
            for (int k = 0; k < grammar.ruleLength[rule] && emptyBefore; k++) {
                int item = grammar.itemAt(rule, k);
                if (item < 0 && !hasBit(done, SYMBOL_MARK - item) && grammar.isEmptyFrom(rule, k + 1)) {
                    return false;
                }
                emptyBefore = item < 0 && hasBit(grammar.empties, SYMBOL_MARK - item);
            }
            return true;
        }

        private void countLength(Grammar grammar, int length) {
            for (int k = 0; k < ordered; k++) {
                int symbol = order[k];
                long sum = 0;
                for (int rule = 0; rule < grammar.ruleCount; rule++) {
                    if (grammar.ruleSymbol[rule] == symbol) {
                        sum += countRow(grammar, rule, length);
                    }
                }
                ofSymbol[symbol * LENGTHS + length] = sum;
            }
            // Now that all symbols are counted, parts of rows are right that were not needed above.
            for (int rule = 0; rule < grammar.ruleCount; rule++) {
                countRow(grammar, rule, length);
            }
        }

        private long countRow(Grammar grammar, int rule, int length) {
            int rowLength = grammar.ruleLength[rule];
            long ways = length == 0 ? 1 : 0;
            ofTail[(rule * TAILS + rowLength) * LENGTHS + length] = ways;
            for (int k = rowLength - 1; k >= 0; k--) {
                int behind = (rule * TAILS + k + 1) * LENGTHS;
                ways = countTail(grammar.itemAt(rule, k), behind, length);
                ofTail[(rule * TAILS + k) * LENGTHS + length] = ways;
            }
            return ways;
        }

        private long countTail(int item, int behind, int length) {
            if (item >= 0) {
                return length == 0 ? 0 : ofTail[behind + length - 1];
            }
            int base = (SYMBOL_MARK - item) * LENGTHS;
            long ways = 0;
            for (int k = 0; k <= length; k++) {
                ways += ofSymbol[base + k] * ofTail[behind + length - k];
            }
            return ways;
        }
    }

    /** The pile, and the rules that were noted. */
    private static final class Parser {
        private Grammar grammar;
        /** Of each one on the pile: what it is, the noted rule that put it there, its place in that row. */
        private final int[] items = new int[PILE_ROOM];
        private final int[] parents = new int[PILE_ROOM];
        private final int[] spots = new int[PILE_ROOM];
        int height = 0;
        private final int[] keptItems = new int[PILE_ROOM];
        private final int[] keptParents = new int[PILE_ROOM];
        private final int[] keptSpots = new int[PILE_ROOM];
        final int[] notedRule = new int[MOST_NOTED];
        final int[] notedParent = new int[MOST_NOTED];
        final int[] notedSpot = new int[MOST_NOTED];
        final int[] notedGone = new int[MOST_NOTED];
        int notedCount = 0;
        private int gone = 0;

        Parser(Grammar first) {
            grammar = first;
        }

        void start(Grammar used) {
            grammar = used;
            items[0] = SYMBOL_MARK;
            parents[0] = -1;
            spots[0] = 0;
            height = 1;
            notedCount = 0;
            gone = 0;
        }

        /** Takes a token or THE END: 0, or the error. */
        int take(int token) {
            for (int n = 0; n <= MOST_NOTED + 1; n++) {
                if (height == 0) {
                    return token == grammar.tokenCount ? 0 : ERROR_NO_FIT;
                }
                int top = items[height - 1];
                if (top >= 0) {
                    return takeOff(top, token);
                }
                int rule = grammar.ruleFor(SYMBOL_MARK - top, token);
                if (rule < 0) {
                    return ERROR_NO_FIT;
                }
                if (notedCount >= MOST_NOTED || height - 1 + grammar.ruleLength[rule] > PILE_ROOM) {
                    return ERROR_NO_ROOM;
                }
                replaceTop(rule);
            }
            return ERROR_NO_ROOM;
        }

        private int takeOff(int top, int token) {
            if (top != token) {
                return ERROR_NO_FIT;
            }
            height--;
            gone++;
            return 0;
        }

        private void replaceTop(int rule) {
            int base = height - 1;
            int note = notedCount;
            notedRule[note] = rule;
            notedParent[note] = parents[base];
            notedSpot[note] = spots[base];
            notedGone[note] = gone;
            notedCount++;
            height = base;
            for (int k = grammar.ruleLength[rule] - 1; k >= 0; k--) {
                items[height] = grammar.itemAt(rule, k);
                parents[height] = note;
                spots[height] = k;
                height++;
            }
        }

        /** Takes for real and then puts all back: what is noted beyond the count is not seen. */
        boolean wouldTake(int token) {
            int keptHeight = height;
            int keptCount = notedCount;
            int keptGone = gone;
            System.arraycopy(items, 0, keptItems, 0, keptHeight);
            System.arraycopy(parents, 0, keptParents, 0, keptHeight);
            System.arraycopy(spots, 0, keptSpots, 0, keptHeight);
            boolean fits = take(token) == 0;
            System.arraycopy(keptItems, 0, items, 0, keptHeight);
            System.arraycopy(keptParents, 0, parents, 0, keptHeight);
            System.arraycopy(keptSpots, 0, spots, 0, keptHeight);
            height = keptHeight;
            notedCount = keptCount;
            gone = keptGone;
            return fits;
        }
    }

    /** A stream: its bytes, how far they were looked at, and the tokens that were found in them. */
    private static final class Reading {
        private Grammar grammar;
        final Parser parser;
        private final int[] bytes = new int[STREAM_ROOM];
        int length = 0;
        /** Where the token begins that is looked for, and the byte that is looked at next. */
        private int begin = 0;
        private int look = 0;
        private int state = 0;
        /** The longest row so far behind which a token was found; -1 without one. */
        private int lastEnd = -1;
        private int lastToken = 0;
        int error = 0;
        int errorPlace = 0;
        boolean finished = false;
        final int[] foundToken = new int[STREAM_ROOM];
        final int[] foundBegin = new int[STREAM_ROOM];
        final int[] foundEnd = new int[STREAM_ROOM];
        int foundCount = 0;

        Reading(Grammar used) {
            grammar = used;
            parser = new Parser(used);
        }

        void start(Grammar used) {
            grammar = used;
            parser.start(used);
            length = 0;
            error = 0;
            errorPlace = 0;
            finished = false;
            foundCount = 0;
            beginAt(0);
        }

        void append(int b) {
            if (length < STREAM_ROOM) {
                bytes[length] = b;
                length++;
            }
        }

        void lookOn() {
            lookAtAll(false);
        }

        void end() {
            if (finished) {
                return;
            }
            finished = true;
            lookAtAll(true);
            if (error == 0) {
                passOn(grammar.tokenCount, length);
            }
        }

        private void beginAt(int place) {
            begin = place;
            look = place;
            state = 0;
            lastEnd = -1;
        }

        /** Each round but the last one settles a token, which has a byte at least. */
        private void lookAtAll(boolean ending) {
            for (int round = 0; round <= STREAM_ROOM && error == 0 && begin < length; round++) {
                if (!goTillStuck() && !ending) {
                    return;
                }
                settleToken();
            }
        }

        private boolean goTillStuck() {
            for (; look < length; look++) {
                int to = grammar.machine.stateBy(state, bytes[look]);
                if (to < 0) {
                    return true;
                }
                state = to;
                if (grammar.machine.finds[to] >= 0) {
                    lastEnd = look + 1;
                    lastToken = grammar.machine.finds[to];
                }
            }
            return false;
        }

        private void settleToken() {
            int start = begin;
            if (lastEnd < 0) {
                error = ERROR_NO_TOKEN;
                errorPlace = start;
                return;
            }
            beginAt(lastEnd);
            if (!grammar.skipped[lastToken] && foundCount < STREAM_ROOM) {
                foundToken[foundCount] = lastToken;
                foundBegin[foundCount] = start;
                foundEnd[foundCount] = begin;
                foundCount++;
                passOn(lastToken, start);
            }
        }

        private void passOn(int token, int place) {
            error = parser.take(token);
            errorPlace = place;
        }
    }
}
