/** The edges of promises 1 to 5: the tape, what a build() leaves in each case, its fault and its conflict. */
public final class BuildEdgesTest {
    private static final int[] WRONG_N = {Integer.MIN_VALUE, -8, -1, 0, 9, 10, 16, 64, Integer.MAX_VALUE};
    private static final String STATES_401 = "a=" + Desk.times("x", 400) + ";S:a;";

    public static void main(String[] args) {
        newTape();
        newDeskHasNothing();
        newDeskTakesAnyArguments();
        typeTakesOneToEight();
        typeTakesTheHighestFirst();
        typeOfAnotherNumber();
        tapeOf2000ByEachNumber();
        tapeOf2000IsRead();
        faultBehindAllBytes();
        tapeIsEmptyBehindEachBuild();
        anotherBuildReadsTheNewTapeAlone();
        textsBehindOthersAreAsOnANewDesk();
        whatThereWasStays();
        errorAndEndStay();
        nothingStaysNothing();
        streamOfANewOneHasNoBytes();
        faultOfTheLatest();
        conflictOfTheLatest();
        firstConflict();
        conflictOfThreeRules();
        Desk.end();
    }

    private static String blanks(int n) {
        return Desk.times(" ", n);
    }

    /** An empty tape. */
    private static void newTape() {
        Desk.due("bytes of the tape", new Desk().many(6), 0);
        Desk desk = new Desk();
        Desk.due("its text has no symbol", desk.build(), -10);
        Desk.due("fault", desk.fault(0), 8);
    }

    /** Nothing is made: no tokens, symbols, rules, and a stream of no bytes. */
    private static void newDeskHasNothing() {
        Desk desk = new Desk();
        for (int what = 0; what <= 5; what++) {
            Desk.due("many " + what, desk.many(what), 0);
        }
        desk.streamIs("new", 0, 0, -1, 0, 0, 0);
        Desk.due("fault", desk.fault(0), 0);
        Desk.due("its place", desk.fault(1), 0);
        Desk.due("finish", desk.finish(), -1);
        Desk.due("reset", desk.reset(), -1);
        Desk.due("feed", desk.feed("a"), -1);
        Desk.due("still no bytes", desk.stream(0), 0);
        Desk.due("not finished", desk.stream(3), 0);
        for (int n = -1; n <= 41; n++) {
            Desk.due("count " + n, desk.count(n), -1);
        }
    }

    private static void newDeskTakesAnyArguments() {
        Desk desk = new Desk();
        for (int k = -1; k <= 3; k++) {
            Desk.due("conflict", desk.conflict(k), -1);
            Desk.due("empty", desk.empty(k), false);
            Desk.due("expected", desk.expected(k), false);
            for (int what = -1; what <= 4; what++) {
                Desk.due("first", desk.first(k, what), false);
                Desk.due("follow", desk.follow(k, what), false);
                Desk.due("cell", desk.cell(k, what), -1);
                Desk.due("rule", desk.rule(k, what), -1);
                Desk.due("token", desk.token(k, what), -1);
                Desk.due("found", desk.found(k, what), -1);
                Desk.due("noted", desk.noted(k, what), -1);
            }
        }
    }

    /** The lowest n bytes (1 .. 8) come to the tape: how many it has. */
    private static void typeTakesOneToEight() {
        Desk desk = new Desk();
        int typed = 0;
        for (int n = 1; n <= 8; n++) {
            typed += n;
            Desk.due("type of " + n, desk.type(0x2020202020202020L, n), typed);
            Desk.due("bytes of the tape", desk.many(6), typed);
        }
    }

    /** The highest of these first; what is above them is no matter. */
    private static void typeTakesTheHighestFirst() {
        String name = "abcdefgh";
        for (int n = 1; n <= 8; n++) {
            Desk desk = new Desk();
            desk.type(Desk.packed(name), n);
            desk.type("=x;S:" + name.substring(8 - n) + ";");
            Desk.due("the lowest " + n, desk.build(), 0);
            for (long above : new long[] {0L, -1L, 0x8080808080808080L}) {
                Desk other = new Desk();
                long mask = n == 8 ? -1L : (1L << 8 * n) - 1;
                other.type(above & ~mask | Desk.packed(name) & mask, n);
                other.type("=x;S:" + name.substring(8 - n) + ";");
                Desk.due("the lowest " + n + " below " + above, other.build(), 0);
            }
        }
        Desk desk = new Desk();
        desk.type(-1L, 8);
        Desk.due("bytes of 255", desk.build(), -10);
    }

    /** BAD: another n. */
    private static void typeOfAnotherNumber() {
        Desk desk = new Desk();
        for (int n : WRONG_N) {
            Desk.due("type of " + n, desk.type(0x2020202020202020L, n), -1);
            Desk.due("none came", desk.many(6), 0);
        }
        desk.type(blanks(2000));
        for (int n : WRONG_N) {
            Desk.due("type of " + n + " to a full tape", desk.type(0x2020202020202020L, n), -1);
        }
    }

    /** FULL (none comes): more than 2000. */
    private static void tapeOf2000ByEachNumber() {
        for (int n = 1; n <= 8; n++) {
            Desk fits = new Desk();
            fits.type(blanks(1999 - n));
            Desk.due("1999 by " + n, fits.type(0x2020202020202020L, n), 1999);
            Desk.due("1999 and " + n, fits.type(0x2020202020202020L, n), n == 1 ? 2000 : -2);
            Desk desk = new Desk();
            desk.type(blanks(2000 - n));
            Desk.due("2000 by " + n, desk.type(0x2020202020202020L, n), 2000);
            Desk.due("2000 and " + n, desk.type(0x2020202020202020L, n), -2);
            Desk.due("bytes of the tape", desk.many(6), 2000);
            Desk full = new Desk();
            full.type(blanks(2001 - n));
            Desk.due("2001 by " + n, full.type(0x2020202020202020L, n), -2);
            Desk.due("none came", full.many(6), 2001 - n);
            Desk.due("one less", full.type(0x2020202020202020L, n - 1), n == 1 ? -1 : 2000);
        }
    }

    private static void tapeOf2000IsRead() {
        Desk desk = new Desk();
        Desk.due("2000", desk.type(blanks(1997) + "S:;"), 2000);
        Desk.due("all are read", desk.build(), 0);
        Desk other = new Desk();
        other.type(blanks(1998) + "S:");
        Desk.due("FULL", other.type(";"), -2);
        Desk.due("what did not come is not read", other.build(), -2010);
        Desk.due("fault", other.fault(0), 1);
        Desk.due("its place", other.fault(1), 2000);
        Desk full = new Desk();
        full.type(blanks(1997) + "a=\\");
        Desk.due("a \\ at the last place", full.build(), -2010);
        Desk.due("fault", full.fault(0), 1);
        Desk.due("room again", other.type("S:;"), 3);
        Desk.due("build", other.build(), 0);
    }

    /** -10 less the place of its fault. */
    private static void faultBehindAllBytes() {
        for (int n : new int[] {0, 1, 7, 8, 9, 1998, 1999}) {
            Desk.faulty(blanks(n) + "!", 1, n);
            Desk.faulty(blanks(n) + "S", 1, n + 1);
            Desk.faulty(blanks(n), 8, n);
        }
        Desk.faulty(blanks(2000), 8, 2000);
        Desk.faulty(blanks(1996) + "S:S;", 9, 1996);
        Desk.faulty(blanks(1996) + "S:T;", 3, 1998);
    }

    /** The tape, which is empty then (in any case). */
    private static void tapeIsEmptyBehindEachBuild() {
        String[] texts = {"S:;", "S", "a=x;a=x;S:;", "S:T;", "S:a;-a=x;", "a=[b-a];S:;", "a=x*;S:;",
            "W:" + Desk.times("|", 60) + ";", "", "S:S;", STATES_401, "S:|;"};
        int[] answers = {0, -11, -14, -12, -12, -13, -12, -72, -10, -10, -2, -3};
        for (int k = 0; k < texts.length; k++) {
            Desk desk = new Desk();
            Desk.due("build of " + texts[k], desk.build(texts[k]), answers[k]);
            Desk.due("bytes of the tape", desk.many(6), 0);
            Desk.due("the first byte again", desk.type(" "), 1);
        }
    }

    private static void anotherBuildReadsTheNewTapeAlone() {
        Desk desk = Desk.made("a=x;b=y;c=z;S:a T c|;T:b|;");
        Desk.due("the tape is empty", desk.build(), -10);
        Desk.due("no symbol is told", desk.fault(0), 8);
        Desk.due("a shorter text", desk.build("a=x;S:a;"), 0);
        Desk.due("tokens", desk.many(0), 1);
        Desk.due("symbols", desk.many(1), 1);
        Desk.due("rules", desk.many(2), 1);
        Desk.due("places", desk.many(3), 1);
        Desk.due("states", desk.many(4), 2);
        Desk.due("no token of the last one", desk.build("S:b;"), -12);
        Desk.due("no symbol of the last one", desk.build("a=x;T:S;"), -16);
        Desk.due("two halves of a text", desk.build("a=x;S:"), -16);
        Desk.due("two halves of a text", desk.build("a;"), -11);
        // Bytes of the last text stand behind the new one's end.
        desk.build("a=\\n;S:a;");
        Desk.due("more must come behind a \\", desk.build("a=\\"), -13);
        Desk.due("more must come behind a set's \\", desk.build("a=[\\"), -14);
        Desk.due("build", desk.build("abc:=x;S:;"), -13);
        Desk.due("more must come behind a name", desk.build("ab"), -12);
    }

    /** All that can be asked of a desk, as one number. */
    private static long looks(Desk desk) {
        long sum = 0;
        for (int what = 0; what <= 6; what++) {
            sum = sum * 31 + desk.many(what);
            sum = sum * 31 + desk.stream(what);
        }
        for (int symbol = 0; symbol < 3; symbol++) {
            sum = sum * 31 + (desk.empty(symbol) ? 1 : 0);
            for (int token = 0; token < 4; token++) {
                sum = sum * 31 + desk.cell(symbol, token);
                sum = sum * 31 + (desk.first(symbol, token) ? 1 : 0);
                sum = sum * 31 + (desk.follow(symbol, token) ? 1 : 0);
            }
        }
        for (int k = 0; k < 4; k++) {
            sum = sum * 31 + desk.token(k, 0);
            sum = sum * 31 + desk.token(k, 1);
            sum = sum * 31 + desk.rule(k, 0);
            sum = sum * 31 + desk.rule(k, 3);
            sum = sum * 31 + desk.count(k);
            sum = sum * 31 + (desk.expected(k) ? 1 : 0);
            sum = sum * 31 + desk.found(k, 0);
            sum = sum * 31 + desk.noted(k, 0);
            sum = sum * 31 + desk.noted(k, 2);
        }
        return sum;
    }

    private static long looksOfStreams(Desk desk) {
        long sum = looks(desk);
        for (String bytes : new String[] {"x", "xy", "yx", "xyxy", "xxy", "z"}) {
            sum = sum * 31 + desk.feed(bytes);
            sum = sum * 31 + desk.finish();
            sum = sum * 31 + desk.stream(4);
            sum = sum * 31 + desk.stream(5);
            sum = sum * 31 + desk.stream(6);
            sum = sum * 31 + desk.reset();
        }
        return sum;
    }

    /** In place of what there was: nothing of earlier texts is left, whatever they were. */
    private static void textsBehindOthersAreAsOnANewDesk() {
        String[] texts = {"a=x;b=y;S:a T|;T:b S;", "a=xy;S:a S|;", "S:;", "b=y;a=x;S:b|a T;T:b T|;U:T a;",
            "a=[^x];b=x+y*;-c=z;S:a|b S;", "b=x[^\\_-~];a=x(yx)*;S:a S|;", "a=xyz;b=x;c=y;S:T c;T:b|;U:a;",
            "a=x;b=y;S:a T b;T:;U:b;"};
        String[] refused = {"", "a=[x-z];b=u;S:a", "a=x*;S:a;", "c=x;d=y;S:c|d|c;T:S;", "a=x;S:S a;", STATES_401};
        for (String text : texts) {
            long due = looksOfStreams(Desk.made(text));
            for (String one : texts) {
                for (String other : texts) {
                    Desk desk = new Desk();
                    desk.build(one);
                    desk.count(40);
                    desk.feed("xyxyx");
                    desk.build(other);
                    desk.feed("xyxyx");
                    Desk.due("build", desk.build(text), 0);
                    Desk.due(text + " behind " + one + " and " + other, looksOfStreams(desk), due);
                }
                Desk desk = new Desk();
                desk.build(one);
                desk.count(40);
                desk.feed("xyxyx");
                Desk.due("build", desk.build(text), 0);
                Desk.due(text + " behind " + one, looksOfStreams(desk), due);
            }
            for (String other : refused) {
                Desk desk = new Desk();
                desk.build(other);
                Desk.due("build", desk.build(text), 0);
                Desk.due("refused", desk.build(other) < 0, true);
                Desk.due(text + " before " + other, looksOfStreams(desk), due);
            }
        }
    }

    /** What there was, and its stream, stay: behind each fault, FULL and CONFLICT. */
    private static void whatThereWasStays() {
        String[] texts = {"S", "c=z;c=x;S:;", "c=z;S:T;", "S:c;-c=x;", "c=[b-a];S:;", "c=x*;S:;",
            "W:" + Desk.times("|", 60) + ";", "c=z;", "c=z;d=z;S:;T:T;", STATES_401,
            "a=" + Desk.times("x|", 600) + "x;S:a;", "c=z;S:;T:c;U:c c|c;"};
        for (String text : texts) {
            Desk desk = Desk.made("a=x;b=y;S:a T b b;T:a T b|;");
            Desk.due("feed", desk.feed("xxxx"), 0);
            desk.streamIs("at first", 4, 0, -1, 0, 3, 3, 5);
            Desk.due("refused", desk.build(text) < 0, true);
            desk.streamIs("behind " + text, 4, 0, -1, 0, 3, 3, 5);
            Desk.due("it goes on", desk.feed("y"), 0);
            desk.streamIs("behind " + text, 5, 0, -1, 0, 4, 4, 6);
            Desk.due("it goes on", desk.feed("yyyy"), 0);
            Desk.due("accepted", desk.finish(), 0);
            Desk.due("rules", desk.stream(5), 5);
        }
        Desk all = Desk.made("a=x;b=y;S:a T b b;T:a T b|;");
        all.feed("xxxx");
        all.expected(1);
        for (String text : new String[] {"S", "c=x*;S:;", "c=z;", "c=z;d=z;S:;T:T;", "c=z;S:;T:c;U:c c|c;"}) {
            Desk.due("refused", all.build(text) < 0, true);
            looksLike(all, text);
        }
    }

    private static void looksLike(Desk desk, String told) {
        int[] many = {2, 2, 3, 2, 3, 3, 0};
        for (int what = 0; what < many.length; what++) {
            Desk.due(told + ": many " + what, desk.many(what), many[what]);
        }
        desk.foundIs(told, 0, 0, 1, 0, 1, 2, 0, 2, 3);
        int[] noted = {0, -1, 0, 0, 1, 0, 1, 1, 1, 1, 1, 2};
        for (int k = 0; k < noted.length; k++) {
            Desk.due(told + ": noted " + k / 4 + " " + k % 4, desk.noted(k / 4, k % 4), noted[k]);
        }
        Desk.due(told + ": no further one", desk.noted(3, 0), -1);
        Desk.due(told + ": cell", desk.cell(1, 1), 2);
        Desk.due(told + ": no cell", desk.cell(0, 2), -1);
        Desk.due(told + ": rule", desk.rule(1, 3), -1001);
        Desk.due(told + ": first", desk.first(1, 0), true);
        Desk.due(told + ": follow", desk.follow(1, 1), true);
        Desk.due(told + ": empty", desk.empty(1), true);
        Desk.due(told + ": token", desk.token(1, 1), 1);
        Desk.due(told + ": count", desk.count(7), 1);
        Desk.due(told + ": count", desk.count(8), 0);
        desk.expectedIs(told, 2, 0b11);
    }

    private static void errorAndEndStay() {
        for (String text : new String[] {"S", STATES_401, "S:|;"}) {
            Desk desk = Desk.made("a=x;b=y;S:a b;");
            Desk.due("an error", desk.feed("xxy"), 2);
            Desk.due("refused", desk.build(text) < 0, true);
            desk.streamIs("the error stays", 3, 2, 1, 0, 2, 1, 1);
            Desk.due("the end", desk.finish(), 2);
            Desk.due("refused", desk.build(text) < 0, true);
            desk.streamIs("the end stays", 3, 2, 1, 1, 2, 1, 1);
            Desk.due("again", desk.finish(), 2);
            Desk.due("no feed", desk.feed("x"), -1);
            Desk.due("reset", desk.reset(), 3);
            desk.feed("xy");
            Desk.due("accepted", desk.finish(), 0);
        }
    }

    /** A first text that is refused makes nothing. */
    private static void nothingStaysNothing() {
        for (String text : new String[] {"S", "a=x;S:S;", STATES_401, "a=x;S:a|a;"}) {
            Desk desk = new Desk();
            Desk.due("refused", desk.build(text) < 0, true);
            for (int what = 0; what <= 6; what++) {
                Desk.due("many " + what, desk.many(what), 0);
            }
            desk.streamIs("nothing", 0, 0, -1, 0, 0, 0);
            Desk.due("feed", desk.feed("x"), -1);
            Desk.due("finish", desk.finish(), -1);
            Desk.due("reset", desk.reset(), -1);
            Desk.due("count", desk.count(0), -1);
            Desk.due("expected", desk.expected(0), false);
            Desk.due("expected", desk.expected(1), false);
            Desk.due("rule", desk.rule(0, 0), -1);
            Desk.due("token", desk.token(0, 0), -1);
            Desk.due("cell", desk.cell(0, 0), -1);
            Desk.due("first", desk.first(0, 0), false);
            Desk.due("follow", desk.follow(0, 1), false);
            Desk.due("empty", desk.empty(0), false);
        }
    }

    /** .. in place of what there was, and the stream has no bytes: 0. */
    private static void streamOfANewOneHasNoBytes() {
        String[] fed = {"", "x", "xxxxxx", "xy", "z", "xyz"};
        for (String bytes : fed) {
            for (boolean ended : new boolean[] {false, true}) {
                Desk desk = Desk.made("a=x;b=y;S:a S|b b;");
                desk.feed(bytes);
                if (ended) {
                    desk.finish();
                }
                Desk.due("build", desk.build("a=x;S:a S|;"), 0);
                desk.streamIs("anew", 0, 0, -1, 0, 0, 0, 1);
                desk.foundIs("anew");
                Desk.due("noted", desk.noted(0, 0), -1);
                desk.expectedIs("anew", 1, 0b11);
                Desk.due("feed", desk.feed("xx"), 0);
                Desk.due("finish", desk.finish(), 0);
                desk.foundIs("anew", 0, 0, 1, 0, 1, 2);
            }
        }
    }

    private static void faultIs(Desk desk, String told, int number, int place) {
        Desk.due(told + ": fault", desk.fault(0), number);
        Desk.due(told + ": place", desk.fault(1), place);
        for (int what : new int[] {Integer.MIN_VALUE, -2, -1, 2, 3, 9, Integer.MAX_VALUE}) {
            Desk.due(told + ": fault " + what, desk.fault(what), -1);
        }
    }

    /** Of the latest build(): 0 and 0 without one, or before any. BAD. */
    private static void faultOfTheLatest() {
        Desk desk = new Desk();
        faultIs(desk, "before any", 0, 0);
        desk.type("a=x;S:a T;");
        faultIs(desk, "typed alone", 0, 0);
        Desk.due("build", desk.build(), -18);
        faultIs(desk, "fault 3", 3, 8);
        desk.type("S:;");
        faultIs(desk, "typed alone", 3, 8);
        desk.build();
        faultIs(desk, "a good one", 0, 0);
        desk.build("a=x*;S:a;");
        faultIs(desk, "fault 6", 6, 2);
        desk.feed("x");
        desk.reset();
        desk.finish();
        faultIs(desk, "the stream is no matter", 6, 2);
        desk.build("S:|;");
        faultIs(desk, "CONFLICT", 0, 0);
        desk.build("S:S;");
        faultIs(desk, "fault 9 at 0", 9, 0);
        desk.build(STATES_401);
        faultIs(desk, "FULL", 0, 0);
        desk.build();
        faultIs(desk, "no text", 8, 0);
    }

    private static void conflictIs(Desk desk, String told, int... cell) {
        for (int what = 0; what < 4; what++) {
            Desk.due(told + ": conflict " + what, desk.conflict(what), cell.length == 0 ? -1 : cell[what]);
        }
        for (int what : new int[] {Integer.MIN_VALUE, -2, -1, 4, 5, Integer.MAX_VALUE}) {
            Desk.due(told + ": conflict " + what, desk.conflict(what), -1);
        }
    }

    /** Of the latest build(), if it was CONFLICT. BAD: it was none, or another what. */
    private static void conflictOfTheLatest() {
        Desk desk = new Desk();
        conflictIs(desk, "before any");
        Desk.due("build", desk.build("a=x;b=y;S:a T b;T:U|;U:b|a;"), -3);
        conflictIs(desk, "a conflict", 1, 1, 1, 2);
        desk.type("S:;");
        conflictIs(desk, "typed alone", 1, 1, 1, 2);
        desk.build();
        conflictIs(desk, "a good one");
        desk.feed("x");
        desk.build("S:|;");
        conflictIs(desk, "of THE END", 0, 0, 0, 1);
        desk.finish();
        desk.reset();
        conflictIs(desk, "the stream is no matter", 0, 0, 0, 1);
        desk.build("S");
        conflictIs(desk, "a fault");
        desk.build("S:|;");
        conflictIs(desk, "again", 0, 0, 0, 1);
        desk.build(STATES_401);
        conflictIs(desk, "FULL");
    }

    private static void conflict(String text, int... cell) {
        Desk desk = new Desk();
        Desk.due("build of " + text, desk.build(text), -3);
        conflictIs(desk, text, cell);
    }

    /** The first cell that is one, by symbols, then by tokens. */
    private static void firstConflict() {
        // The second symbol's token 0 is behind the first one's token 1.
        conflict("a=x;b=y;S:T|b|b;T:a|a;", 0, 1, 1, 2);
        conflict("a=x;b=y;S:T b;T:a|a;", 1, 0, 1, 2);
        // The rules of a greater token stand before those of a lesser one.
        conflict("a=x;b=y;S:b|b|a|a;", 0, 0, 2, 3);
        conflict("b=y;a=x;S:b|b|a|a;", 0, 0, 0, 1);
        // THE END is the last one.
        conflict("a=x;S:|T|a|a;T:;", 0, 0, 2, 3);
        conflict("a=x;S:|T|a;T:;", 0, 1, 0, 1);
        conflict("S:|;", 0, 0, 0, 1);
        // Symbols by their first statements.
        conflict("a=x;T:a U;S:a|a;U:|;", 1, 0, 1, 2);
    }

    /** The least rule in it (2), the next one (3). */
    private static void conflictOfThreeRules() {
        conflict("a=x;b=y;S:b|a|a a|a a a;", 0, 0, 1, 2);
        conflict("a=x;b=y;S:a;T:;S:b|a b|a a;", 0, 0, 0, 3);
        conflict("a=x;b=y;S:T b;T:b|U|;U:;", 1, 1, 1, 2);
        // One rule in two ways is no conflict: it begins with a, and is EMPTY before a.
        Desk.made("a=x;b=y;S:T a|b;T:U;U:;");
        Desk.made("a=x;b=y;S:T b;T:U V;U:a|;V:;");
        // A cell of a token that is SKIPPED has no rules.
        Desk.made("-s=z;a=x;S:a|;");
    }
}
