import java.math.BigInteger;

/** The edges of promises 6 to 13: numbers of tokens, symbols and rules that are there and that are not, and counts. */
public final class MadeEdgesTest {
    private static final int[] FAR = {Integer.MIN_VALUE, -1001, -1000, -2, 31, 32, 60, 64, 1000, Integer.MAX_VALUE};

    public static void main(String[] args) {
        first();
        firstIsNeverTheEnd();
        follow();
        followOfTheStart();
        followOfRowsFromTheStart();
        empty();
        cell();
        cellOfEmptyRows();
        mostTokensAndSymbols();
        many();
        manyOfTheTape();
        manyPlaces();
        statesThatLeadToOne();
        machinesOfManyPlaces();
        numbers();
        rule();
        ruleOfEachLength();
        token();
        tokenFoundFirst();
        shortestOfAll();
        countOf0To40();
        countLowestBits();
        countOfLengths();
        countInAnyOrder();
        countOfManySymbols();
        Desk.end();
    }

    private static Desk small() {
        return Desk.made("a=x;-s=z;b=y;S:a S|b T;T:a T|;");
    }

    /** Whether a token is in FIRST of a symbol; false without such ones. */
    private static void first() {
        Desk desk = small();
        boolean[][] due = {{true, false, true, false}, {true, false, false, false}};
        for (int symbol = -1; symbol <= 2; symbol++) {
            for (int token = -1; token <= 4; token++) {
                boolean is = symbol >= 0 && symbol < 2 && token >= 0 && token < 4 && due[symbol][token];
                Desk.due("first " + symbol + " " + token, desk.first(symbol, token), is);
            }
        }
        for (int far : FAR) {
            Desk.due("first " + far, desk.first(far, 0), false);
            Desk.due("first 0 " + far, desk.first(0, far), false);
        }
    }

    private static void firstIsNeverTheEnd() {
        Desk desk = Desk.made("a=x;S:T;T:;U:a;");
        for (int symbol = 0; symbol < 3; symbol++) {
            Desk.due("THE END", desk.first(symbol, 1), false);
            Desk.due("a", desk.first(symbol, 0), symbol == 2);
        }
        Desk none = Desk.made("S:;");
        Desk.due("no tokens", none.first(0, 0), false);
        // What a symbol begins with that does not come from THE START.
        Desk lone = Desk.made("a=x;b=y;S:a;T:U b;U:a|;");
        Desk.due("T begins with a", lone.first(1, 0), true);
        Desk.due("T begins with b", lone.first(1, 1), true);
        Desk.due("U does not begin with b", lone.first(2, 1), false);
    }

    /** Whether a token, or THE END, is in FOLLOW of a symbol; false without such ones. */
    private static void follow() {
        Desk desk = Desk.made("a=x;-s=z;b=y;S:a T b|b;T:a T a|b;");
        boolean[][] due = {{false, false, false, true}, {true, false, true, false}};
        for (int symbol = -1; symbol <= 2; symbol++) {
            for (int token = -1; token <= 4; token++) {
                boolean is = symbol >= 0 && symbol < 2 && token >= 0 && token < 4 && due[symbol][token];
                Desk.due("follow " + symbol + " " + token, desk.follow(symbol, token), is);
            }
        }
        for (int far : FAR) {
            Desk.due("follow " + far, desk.follow(far, 3), false);
            Desk.due("follow 0 " + far, desk.follow(0, far), false);
        }
    }

    /** THE END is in FOLLOW of THE START. */
    private static void followOfTheStart() {
        Desk none = Desk.made("S:;");
        Desk.due("THE END", none.follow(0, 0), true);
        Desk.due("behind it", none.follow(0, 1), false);
        Desk.due("before it", none.follow(0, -1), false);
        Desk.due("no symbol", none.follow(1, 0), false);
        Desk desk = Desk.made("a=x;b=y;S:a S b|;");
        Desk.due("b", desk.follow(0, 1), true);
        Desk.due("THE END", desk.follow(0, 2), true);
        Desk.due("a", desk.follow(0, 0), false);
    }

    /** Those that come behind it in rows of tokens and symbols that come from THE START. */
    private static void followOfRowsFromTheStart() {
        Desk desk = Desk.made("a=x;b=y;c=z;S:T U V;T:a|;U:b|;V:c|;X:T a V b;");
        boolean[][] due = {{false, false, false, true}, {false, true, true, true}, {false, false, true, true},
            {false, false, false, true}, {false, false, false, false}};
        for (int symbol = 0; symbol < 5; symbol++) {
            for (int token = 0; token < 4; token++) {
                Desk.due("follow " + symbol + " " + token, desk.follow(symbol, token), due[symbol][token]);
            }
        }
    }

    /** Whether a symbol is EMPTY; false without such a one. */
    private static void empty() {
        Desk desk = Desk.made("a=x;S:a|T T;T:U;U:;V:a T;W:V|T;");
        boolean[] due = {true, true, true, false, true};
        for (int symbol = -1; symbol <= 5; symbol++) {
            Desk.due("empty " + symbol, desk.empty(symbol), symbol >= 0 && symbol < 5 && due[symbol]);
        }
        for (int far : FAR) {
            Desk.due("empty " + far, desk.empty(far), false);
        }
        Desk.due("eight that are empty", Desk.made("S:T T T T T T T T;T:;").empty(0), true);
        Desk.due("not the last one", Desk.made("a=x;S:T T T T T T T U;T:;U:a;").empty(0), false);
        Desk.due("not the first one", Desk.made("a=x;S:U T T T T T T T;T:;U:a;").empty(0), false);
    }

    /** The rule in a cell (THE END, too); BAD when there is none, or no such cell. */
    private static void cell() {
        Desk desk = small();
        int[][] due = {{0, -1, 1, -1}, {2, -1, -1, 3}};
        for (int symbol = -1; symbol <= 2; symbol++) {
            for (int token = -1; token <= 4; token++) {
                boolean is = symbol >= 0 && symbol < 2 && token >= 0 && token < 4;
                Desk.due("cell " + symbol + " " + token, desk.cell(symbol, token), is ? due[symbol][token] : -1);
            }
        }
        for (int far : FAR) {
            Desk.due("cell " + far, desk.cell(far, 0), -1);
            Desk.due("cell 0 " + far, desk.cell(0, far), -1);
        }
    }

    /** If it is in FOLLOW, those whose row is EMPTY as a whole. */
    private static void cellOfEmptyRows() {
        Desk none = Desk.made("S:;");
        Desk.due("THE END", none.cell(0, 0), 0);
        Desk.due("behind it", none.cell(0, 1), -1);
        Desk desk = Desk.made("a=x;b=y;c=z;S:T c;T:U U|b;U:V;V:;");
        Desk.due("U U before c", desk.cell(1, 2), 1);
        Desk.due("not before b", desk.cell(1, 1), 2);
        Desk.due("nor before a", desk.cell(1, 0), -1);
        Desk.due("nor before THE END", desk.cell(1, 3), -1);
        Desk.due("U before c", desk.cell(2, 2), 3);
        Desk.due("U not before b", desk.cell(2, 1), -1);
        // What is in FOLLOW is no matter for a row that is not EMPTY.
        Desk.due("S not before THE END", desk.cell(0, 3), -1);
        Desk.due("S before c", desk.cell(0, 2), 0);
    }

    /** Numbers up to 23 and 29, THE END with 24. */
    private static void mostTokensAndSymbols() {
        StringBuilder text = new StringBuilder();
        for (int k = 0; k < 24; k++) {
            text.append((char) ('a' + k)).append('=').append((char) ('a' + k)).append(';');
        }
        for (int k = 0; k < 30; k++) {
            // Each symbol begins with a token, and may be the next one; the last one may be nothing.
            text.append("S").append(k).append(':').append((char) ('a' + k % 24)).append(" S").append((k + 1) % 30);
            text.append(k == 29 ? "|x|;" : ";");
        }
        Desk desk = Desk.made(text.toString());
        Desk.due("tokens", desk.many(0), 24);
        Desk.due("symbols", desk.many(1), 30);
        Desk.due("first 29 23", desk.first(29, 23), true);
        Desk.due("first 23 23", desk.first(23, 23), true);
        Desk.due("first 29 24", desk.first(29, 24), false);
        Desk.due("first 30 0", desk.first(30, 0), false);
        Desk.due("follow 29 24", desk.follow(29, 24), true);
        Desk.due("follow 29 23", desk.follow(29, 23), false);
        Desk.due("follow 29 25", desk.follow(29, 25), false);
        Desk.due("follow 30 24", desk.follow(30, 24), false);
        Desk.due("empty 29", desk.empty(29), true);
        Desk.due("empty 28", desk.empty(28), false);
        Desk.due("empty 30", desk.empty(30), false);
        Desk.due("cell 29 24", desk.cell(29, 24), 31);
        Desk.due("cell 29 23", desk.cell(29, 23), 30);
        Desk.due("cell 29 5", desk.cell(29, 5), 29);
        Desk.due("cell 29 25", desk.cell(29, 25), -1);
        Desk.due("cell 30 24", desk.cell(30, 24), -1);
        Desk.due("cell 0 24", desk.cell(0, 24), -1);
        Desk.due("token 23", desk.token(23, 1), 1);
        Desk.due("token 24", desk.token(24, 1), -1);
        Desk.due("the last symbol in a row", desk.rule(28, 3), -1029);
        Desk.due("expected THE END", desk.expected(24), false);
        Desk.due("feed", desk.feed("abcdefghijklmnopqrstuvwxabcdex"), 0);
        Desk.due("finish", desk.finish(), 0);
        Desk.due("tokens", desk.stream(4), 30);
        Desk.due("rules", desk.stream(5), 30);
    }

    /** How many there are: what = 0 .. 6. BAD. */
    private static void many() {
        Desk desk = Desk.made("a=xx|[yz];-s=(\\_)+;S:a T|;T:;T:a;");
        int[] due = {2, 2, 4, 4, 5, 5, 0};
        for (int what = 0; what <= 6; what++) {
            Desk.due("many " + what, desk.many(what), due[what]);
        }
        for (int what : new int[] {Integer.MIN_VALUE, -2, -1, 7, 8, 100, Integer.MAX_VALUE}) {
            Desk.due("many " + what, desk.many(what), -1);
            Desk.due("many of nothing " + what, new Desk().many(what), -1);
        }
    }

    /** 6 bytes of the tape; 0 to 5 are 0 when nothing is made. */
    private static void manyOfTheTape() {
        Desk desk = new Desk();
        desk.type("a=x;S:a;");
        for (int what = 0; what <= 6; what++) {
            Desk.due("many " + what, desk.many(what), what == 6 ? 8 : 0);
        }
        desk.build();
        int[] due = {1, 1, 1, 1, 2, 2, 0};
        for (int what = 0; what <= 6; what++) {
            Desk.due("many " + what, desk.many(what), due[what]);
        }
        desk.feed("xx");
        Desk.due("bytes of the stream are none of the tape", desk.many(6), 0);
        desk.type("xyz");
        Desk.due("typed", desk.many(6), 3);
        Desk.due("what is made stays", desk.many(0), 1);
    }

    /** The atoms of all EXPs that are no brackets, each as it stands. */
    private static void manyPlaces() {
        String[] texts = {"a=x;", "a=xx;", "a=x|x|x;", "a=(x);", "a=((x)(y));", "a=.;", "a=[a-z0-9];", "a=[^a];",
            "a=\\n;", "a=x+;", "a=x?y*z+;", "a=x;b=x;", "-a=x;", "a=((((((x))))));", "a=(x|(y)(z))(.[u])+\\_;"};
        int[] places = {1, 2, 3, 1, 2, 1, 1, 1, 1, 1, 3, 2, 1, 1, 6};
        for (int k = 0; k < texts.length; k++) {
            Desk.due("places of " + texts[k], Desk.made(texts[k] + "S:;").many(3), places[k]);
        }
    }

    private static void hopeful(String text, int states, int leading) {
        Desk desk = Desk.made(text);
        Desk.due("states of " + text, desk.many(4), states);
        Desk.due("states that lead to one in " + text, desk.many(5), leading);
    }

    /** 5 states from which one that FINDS can be come to (it itself counts). */
    private static void statesThatLeadToOne() {
        String none = "[^\\_-~]";
        hopeful("S:;", 1, 0);
        hopeful("a=x;S:a;", 2, 2);
        hopeful("a=xyz;S:a;", 4, 4);
        hopeful("a=" + none + ";S:a;", 1, 0);
        hopeful("a=x" + none + ";S:a;", 2, 0);
        hopeful("a=xyz" + none + ";S:a;", 4, 0);
        hopeful("a=xyz" + none + "|x;S:a;", 4, 2);
        hopeful("a=x;b=xyz" + none + ";S:a;", 4, 2);
        hopeful("a=x;b=y" + none + ";S:a;", 3, 2);
        hopeful("a=x(yz)*" + none + "|xyzyu;S:a;", 8, 6);
        // Ways back: from each of the circle's states the one at its end is come to.
        hopeful("a=(xyz)+u;S:a;", 5, 5);
        hopeful("a=(xyz)+" + none + ";S:a;", 4, 0);
        // The way to the end leads back over the first state behind x.
        hopeful("a=(xyz)*xu;S:a;", 5, 5);
        hopeful("a=(xyzu)*xv|(xyzu)*" + none + ";S:a;", 6, 6);
        // It FINDS another token, though not this one.
        hopeful("a=x;b=x" + none + "?;S:a;", 2, 2);
    }

    /** Bytes that differ at one place alone, and states that are come to again, however many places there are. */
    private static void machinesOfManyPlaces() {
        for (int n : new int[] {1, 62, 63, 64, 65, 127, 128, 129, 191, 192, 320, 397, 398}) {
            for (char last : "xy".toCharArray()) {
                char other = last == 'x' ? 'y' : 'x';
                Desk desk = Desk.made("a=" + Desk.times("[xy]", n) + last + ";S:a;");
                Desk.due("states", desk.many(4), n + 2);
                desk.feed(Desk.times("" + other, n) + last);
                Desk.due(last + " is the last one", desk.finish(), 0);
                desk.reset();
                desk.feed(Desk.times("" + last, n) + other);
                Desk.due(other + " is not", desk.finish(), 1);
            }
            Desk round = Desk.made("a=(" + Desk.times("x", n) + ")+y;S:a;");
            Desk.due("states of a round", round.many(4), n + 2);
            Desk.due("places of it", round.many(3), n + 1);
            round.feed(Desk.times("x", 2 * n) + "y");
            Desk.due("twice", round.finish(), 0);
        }
    }

    /** NUMBERS 0, 1, .. as they are told (symbols by their first statement), RULES in the order of the text. */
    private static void numbers() {
        Desk desk = Desk.made("T:S b;S:a;-s=z;b=y;T:c;c=u;a=x;R:;S:b;");
        int[] symbols = {0, 1, 0, 2, 1};
        int[] lengths = {2, 1, 1, 0, 1};
        int[] firsts = {-1001, 3, 2, -1, 1};
        for (int rule = 0; rule < 5; rule++) {
            Desk.due("symbol of " + rule, desk.rule(rule, 0), symbols[rule]);
            Desk.due("length of " + rule, desk.rule(rule, 1), lengths[rule]);
            Desk.due("first of " + rule, desk.rule(rule, 2), firsts[rule]);
        }
        Desk.due("s is 0", desk.token(0, 0), 1);
        Desk.due("b is 1", desk.rule(0, 3), 1);
        Desk.due("THE START is T", desk.follow(0, 4), true);
        Desk.due("S is not", desk.follow(1, 4), false);
    }

    /** Of a rule: its symbol, how long its row is, what stands at place k of its row. BAD. */
    private static void rule() {
        Desk desk = Desk.made("a=x;b=y;S:a T b|;T:b;");
        int[][] due = {{0, 3, 0, -1001, 1}, {0, 0}, {1, 1, 1}};
        for (int rule = -1; rule <= 3; rule++) {
            for (int what = -1; what <= 11; what++) {
                boolean is = rule >= 0 && rule < 3 && what >= 0 && what < due[rule].length;
                Desk.due("rule " + rule + " " + what, desk.rule(rule, what), is ? due[rule][what] : -1);
            }
        }
        for (int far : FAR) {
            Desk.due("rule " + far, desk.rule(far, 0), -1);
            Desk.due("rule " + far, desk.rule(far, 2), -1);
            Desk.due("rule 0 " + far, desk.rule(0, far), -1);
        }
    }

    private static void ruleOfEachLength() {
        StringBuilder text = new StringBuilder("a=x;b=y;S:a;");
        for (int n = 0; n <= 8; n++) {
            text.append((char) ('A' + n)).append(':').append(Desk.times("b ", n)).append(';');
        }
        Desk desk = Desk.made(text.toString());
        for (int n = 0; n <= 8; n++) {
            Desk.due("length", desk.rule(1 + n, 1), n);
            for (int k = 0; k <= 9; k++) {
                Desk.due("row of " + n + " at " + k, desk.rule(1 + n, 2 + k), k < n ? 1 : -1);
            }
        }
    }

    /** Of a token: 1 if it is SKIPPED; how many bytes the shortest row has (1). BAD. */
    private static void token() {
        Desk desk = Desk.made("a=xx;-s=z;b=y|uuu;S:a;");
        int[][] due = {{0, 2}, {1, 1}, {0, 1}};
        for (int token = -1; token <= 4; token++) {
            for (int what = -1; what <= 3; what++) {
                boolean is = token >= 0 && token < 3 && what >= 0 && what < 2;
                Desk.due("token " + token + " " + what, desk.token(token, what), is ? due[token][what] : -1);
            }
        }
        for (int far : FAR) {
            Desk.due("token " + far, desk.token(far, 0), -1);
            Desk.due("token " + far, desk.token(far, 1), -1);
            Desk.due("token 0 " + far, desk.token(0, far), -1);
        }
        Desk.due("no tokens", Desk.made("S:;").token(0, 0), -1);
    }

    private static void shortest(String text, int... lengths) {
        Desk desk = Desk.made(text + "S:;");
        for (int token = 0; token < lengths.length; token++) {
            Desk.due("shortest of " + token + " in " + text, desk.token(token, 1), lengths[token]);
        }
    }

    /** A state FINDS the first token (by number); 0 when there is none. */
    private static void tokenFoundFirst() {
        shortest("a=x;b=x;", 1, 0);
        shortest("a=x|yy;b=x|y;", 1, 1);
        shortest("a=[xy];b=x|y|yy;", 1, 2);
        shortest("a=[xy]+;b=x|y|yy;", 1, 0);
        shortest("a=x+;b=x*y;", 1, 1);
        shortest("-a=x;b=x;", 1, 0);
        shortest("a=[^\\_-~];b=x;", 0, 1);
        shortest("a=x[^\\_-~];b=xx;", 0, 2);
        shortest("a=x;b=x;c=x;d=xy;", 1, 0, 0, 2);
    }

    private static void shortestOfAll() {
        shortest("a=" + Desk.times("x", 399) + ";", 399);
        shortest("a=xyz|xy|xyzu;", 2);
        shortest("a=x?y?z?u;b=(xyz)+;c=(x|yy)(z|uu)(xx);", 1, 3, 4);
        shortest("a=x*y+z;", 2);
    }

    private static Desk powers(int tokens) {
        StringBuilder text = new StringBuilder();
        StringBuilder rows = new StringBuilder();
        for (int k = 0; k < tokens; k++) {
            char name = (char) ('a' + k);
            text.append(name).append('=').append(name).append(';');
            rows.append(name).append(" S|");
        }
        return Desk.made(text + "S:" + rows + ";");
    }

    /** How many rows of n tokens (0 .. 40); -1 when nothing is made, or n is not such. */
    private static void countOf0To40() {
        Desk desk = powers(2);
        for (int n = 0; n <= 40; n++) {
            Desk.due("count " + n, desk.count(n), 1L << n);
        }
        for (int n : new int[] {Integer.MIN_VALUE, -41, -2, -1, 41, 42, 64, 1000, Integer.MAX_VALUE}) {
            Desk.due("count " + n, desk.count(n), -1);
        }
        Desk.due("again", desk.count(40), 1L << 40);
        Desk.due("nothing is made", new Desk().count(0), -1);
    }

    /** Of greater numbers the lowest 64 bits. */
    private static void countLowestBits() {
        for (int tokens : new int[] {2, 3, 4, 8, 16, 23, 24}) {
            Desk desk = powers(tokens);
            for (int n = 0; n <= 40; n++) {
                Desk.due(tokens + " tokens: count " + n, desk.count(n), BigInteger.valueOf(tokens).pow(n).longValue());
            }
        }
        // 8 to the power of 21 is the lowest long, of 22 it has 64 bits of 0.
        Desk eight = powers(8);
        Desk.due("63 bits", eight.count(21), Long.MIN_VALUE);
        Desk.due("66 bits", eight.count(22), 0);
        Desk sixteen = powers(16);
        Desk.due("60 bits", sixteen.count(15), 1L << 60);
        Desk.due("64 bits", sixteen.count(16), 0);
    }

    private static void countOfLengths() {
        Desk none = Desk.made("S:;");
        Desk.due("the row of no tokens", none.count(0), 1);
        Desk.due("no other one", none.count(1), 0);
        Desk.due("no other one", none.count(40), 0);
        Desk one = Desk.made("a=x;S:a;");
        Desk.due("no tokens", one.count(0), 0);
        Desk.due("one", one.count(1), 1);
        Desk.due("two", one.count(2), 0);
        // 40 and 41 tokens, and no others.
        Desk long40 = Desk.made("a=x;b=y;S:T T T T T;T:a a a a a a a a;");
        Desk.due("39", long40.count(39), 0);
        Desk.due("40", long40.count(40), 1);
        Desk long41 = Desk.made("a=x;b=y;S:T T T T T b;T:a a a a a a a a;");
        Desk.due("40", long41.count(40), 0);
        // Rows of eight, with other rules before and behind them.
        Desk eight = Desk.made("a=x;b=y;S:T T T T T T T T;T:a|b;");
        for (int n = 0; n <= 16; n++) {
            Desk.due("eight of two: " + n, eight.count(n), n == 8 ? 256 : 0);
        }
        Desk more = Desk.made("a=x;b=y;c=z;S:a T T T T T T T|b S|;T:c U;U:a U b b b b b b|;");
        long[] counts = new long[23];
        for (int n = 0; n < counts.length; n++) {
            counts[n] = more.count(n);
        }
        Desk.due("b and so on alone", counts[7], 1);
        Desk.due("one by a", counts[8], 2);
        Desk.due("two by a", counts[9], 2);
        Desk.due("a U b b b b b b in one of seven", counts[15], 2 + 7);
        // Tokens, not bytes; SKIPPED ones are in no row.
        Desk bytes = Desk.made("a=xyz;-s=u;S:a a;");
        Desk.due("two", bytes.count(2), 1);
        Desk.due("six", bytes.count(6), 0);
    }

    private static void countInAnyOrder() {
        int[] order = {40, 0, 17, 39, 1, 40, 2, 38};
        Desk desk = powers(3);
        for (int n : order) {
            Desk.due("count " + n, desk.count(n), BigInteger.valueOf(3).pow(n).longValue());
        }
        // S is U as a whole, which is known behind T alone.
        Desk late = Desk.made("a=x;b=y;S:T U;T:a|;U:V;V:b V|;");
        for (int n = 0; n <= 40; n++) {
            Desk.due("late " + n, late.count(n), n == 0 ? 1 : 2);
        }
        // Rules whose rows are told later, and a row that is another symbol as a whole.
        Desk chain = Desk.made("a=x;b=y;c=z;S:T;T:U V;U:W;V:c U b V|;W:a|;");
        for (int n = 40; n >= 0; n--) {
            Desk.due("chain " + n, chain.count(n), chainRows(n));
        }
    }

    private static void countOfManySymbols() {
        StringBuilder text = new StringBuilder("a=x;");
        for (int k = 0; k < 30; k++) {
            text.append('S').append(k).append(k == 29 ? ":a|;" : ":a S" + (k + 1) + "|;");
        }
        Desk desk = new Desk();
        for (int round = 0; round < 3; round++) {
            Desk.due("build", desk.build(text.toString()), 0);
            for (int n : new int[] {0, 29, 30, 31, 40}) {
                Desk.due("30 at most: " + n, desk.count(n), n <= 30 ? 1 : 0);
            }
        }
    }

    /** An a or none, then any number of: c, an a or none, b. */
    private static long chainRows(int n) {
        long[] behind = new long[n + 1];
        behind[0] = 1;
        for (int k = 2; k <= n; k++) {
            behind[k] = behind[k - 2] + (k > 2 ? behind[k - 3] : 0);
        }
        return behind[n] + (n > 0 ? behind[n - 1] : 0);
    }
}
