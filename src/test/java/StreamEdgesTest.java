/** The edges of promises 14 to 20 and of what the document says of streams, the pile and the errors. */
public final class StreamEdgesTest {
    private static final int[] FAR = {Integer.MIN_VALUE, -1000, -2, 4000, 4001, 6000, 20000, 20001, Integer.MAX_VALUE};
    private static final long XS = 0x7878787878787878L;

    public static void main(String[] args) {
        feedTakesOneToEight();
        feedTakesTheHighestFirst();
        feedOfAnotherNumber();
        feedOfNothingAndBehindTheEnd();
        streamOf4000();
        streamOf4000ByEachNumber();
        streamOf4000WithAnError();
        fullChangesNothing();
        eachSplitIsTheSame();
        stuckAtOnce();
        notStuckIsNoTokenYet();
        longestRowGoesBack();
        finishWithoutBytesBehind();
        error1();
        error1ByFinish();
        nothingGoesOnBehindAnError();
        error2WithoutARule();
        error2WithAnotherToken();
        error2OfAnEmptyPile();
        theEnd();
        pileOf6000();
        pileOf6001();
        pileOfTheEnd();
        rules20000();
        rules20001();
        rules20001OfTheEnd();
        finishAgain();
        resetAnswersBytes();
        resetOfEachState();
        resetPutsTheStartAnew();
        stream();
        placeOfTheError();
        tokensThatWent();
        found();
        noted();
        notedOfTheStart();
        goneBefore();
        expected();
        expectedIsFalse();
        expectedAtTheEdges();
        expectedPutsAllBack();
        skippedTokens();
        Desk.end();
    }

    /** The lowest n bytes (1 .. 8) are fed. */
    private static void feedTakesOneToEight() {
        Desk desk = Desk.made("a=x;S:a S|;");
        int fed = 0;
        for (int n = 1; n <= 8; n++) {
            fed += n;
            Desk.due("feed of " + n, desk.feed(XS, n), 0);
            Desk.due("bytes", desk.stream(0), fed);
            Desk.due("tokens", desk.stream(4), fed - 1);
        }
    }

    /** The highest of these first. */
    private static void feedTakesTheHighestFirst() {
        for (int n = 1; n <= 8; n++) {
            for (long above : new long[] {0L, -1L, 0x8080808080808080L}) {
                Desk desk = Desk.made("a=a;b=b;c=c;d=d;e=e;f=f;g=g;h=h;S:T S|;T:a|b|c|d|e|f|g|h;");
                long mask = n == 8 ? -1L : (1L << 8 * n) - 1;
                Desk.due("feed", desk.feed(above & ~mask | Desk.packed("abcdefgh") & mask, n), 0);
                Desk.due("finish", desk.finish(), 0);
                Desk.due("tokens", desk.stream(4), n);
                for (int k = 0; k < n; k++) {
                    Desk.due("token " + k + " of " + n, desk.found(k, 0), 8 - n + k);
                }
            }
        }
        // Bytes 128 .. 255 are such, too: no machine takes them.
        Desk desk = Desk.made("a=[\\t-~];S:a S|;");
        Desk.due("bytes of 255", desk.feed(-1L, 8), 1);
    }

    /** BAD: another n. */
    private static void feedOfAnotherNumber() {
        int[] wrong = {Integer.MIN_VALUE, -8, -1, 0, 9, 10, 16, 64, Integer.MAX_VALUE};
        Desk desk = Desk.made("a=x;S:a S|;");
        for (int n : wrong) {
            Desk.due("feed of " + n, desk.feed(XS, n), -1);
            Desk.due("none was fed", desk.stream(0), 0);
        }
        desk.feed("z");
        for (int n : wrong) {
            Desk.due("feed of " + n + " behind an error", desk.feed(XS, n), -1);
            Desk.due("none was fed", desk.stream(0), 1);
        }
    }

    /** BAD: nothing is made, or it is finished. */
    private static void feedOfNothingAndBehindTheEnd() {
        Desk desk = new Desk();
        for (int n = 0; n <= 9; n++) {
            Desk.due("nothing is made", desk.feed(XS, n), -1);
        }
        desk.build("a=x;S:a S|;");
        Desk.due("made", desk.feed("x"), 0);
        Desk.due("finish", desk.finish(), 0);
        for (int n = 0; n <= 9; n++) {
            Desk.due("finished", desk.feed(XS, n), -1);
        }
        desk.streamIs("none was fed", 1, 0, -1, 1, 1, 2, 0);
        desk.reset();
        desk.feed("xz");
        Desk.due("an error", desk.finish(), 1);
        Desk.due("finished with an error", desk.feed("x"), -1);
        desk.streamIs("none was fed", 2, 1, 1, 1, 1, 1, 1);
        desk.reset();
        Desk.due("not finished", desk.feed("x"), 0);
    }

    private static Desk fed(String text, int bytes) {
        Desk desk = Desk.made(text);
        desk.feed(Desk.times("x", bytes));
        return desk;
    }

    /** FULL, none is fed: the stream would have more than 4000. */
    private static void streamOf4000() {
        Desk below = fed("a=x;S:a S|;", 3992);
        Desk.due("3999", below.feed(XS, 7), 0);
        Desk.due("4001", below.feed(XS, 2), -2);
        Desk.due("none was fed", below.stream(0), 3999);
        Desk.due("4000", below.feed(XS, 1), 0);
        Desk.due("4001", below.feed(XS, 1), -2);
        Desk.due("bytes", below.stream(0), 4000);
        Desk.due("finish", below.finish(), 0);
        Desk.due("the last one's end", below.found(3999, 2), 4000);
    }

    private static void streamOf4000ByEachNumber() {
        for (int n = 1; n <= 8; n++) {
            Desk desk = fed("a=x;S:a S|;", 4000 - n);
            Desk.due("4000 by " + n, desk.feed(XS, n), 0);
            Desk.due("4000 and " + n, desk.feed(XS, n), -2);
            Desk.due("bytes", desk.stream(0), 4000);
            Desk full = fed("a=x;S:a S|;", 4001 - n);
            Desk.due("4001 by " + n, full.feed(XS, n), -2);
            Desk.due("none was fed", full.stream(0), 4001 - n);
            Desk.due("one less", full.feed(XS, n - 1), n == 1 ? -1 : 0);
        }
    }

    /** Bytes that were not looked at count, too. */
    private static void streamOf4000WithAnError() {
        for (String text : new String[] {"a=y;S:a;", "a=x;S:;", "a=x;b=y;S:b;"}) {
            Desk desk = fed(text, 3999);
            int error = desk.stream(1);
            Desk.due("an error", error > 0, true);
            Desk.due("4001", desk.feed(XS, 2), -2);
            Desk.due("4000", desk.feed(XS, 1), error);
            Desk.due("4001", desk.feed(XS, 1), -2);
            Desk.due("bytes", desk.stream(0), 4000);
            Desk.due("finish", desk.finish(), error);
            Desk.due("BAD, not FULL", desk.feed(XS, 1), -1);
            Desk.due("reset", desk.reset(), 4000);
        }
    }

    private static void fullChangesNothing() {
        Desk desk = fed("a=xxxxxxxx|y;S:a S|;", 3999);
        Desk.due("tokens", desk.stream(4), 499);
        Desk.due("FULL", desk.feed("xy"), -2);
        Desk.due("tokens", desk.stream(4), 499);
        Desk.due("the first of these is not fed", desk.feed("x"), 0);
        Desk.due("finish", desk.finish(), 0);
        Desk.due("tokens", desk.stream(4), 500);
    }

    private static void eachSplitIsTheSame() {
        String bytes = "xxyzzxyxz";
        String text = "a=x+y?;b=z;c=xyxyu;S:a S|b S|;";
        for (int cut = 1; cut < 8; cut++) {
            Desk desk = Desk.made(text);
            desk.feed(bytes.substring(0, cut));
            Desk.due("feed", desk.feed(bytes.substring(cut)), 0);
            Desk.due("finish", desk.finish(), 0);
            desk.foundIs("cut at " + cut, 0, 0, 3, 1, 3, 4, 1, 4, 5, 0, 5, 7, 0, 7, 8, 1, 8, 9);
        }
    }

    /** The machine goes on as long as it is not stuck. */
    private static void stuckAtOnce() {
        Desk desk = Desk.made("a=x;b=y;S:a S|b S|;");
        desk.feed("x");
        Desk.due("not stuck yet", desk.stream(4), 0);
        desk.feed("y");
        desk.foundIs("stuck at y", 0, 0, 1);
        desk.feed("y");
        desk.foundIs("stuck at y", 0, 0, 1, 1, 1, 2);
        Desk.due("finish", desk.finish(), 0);
        desk.foundIs("the end", 0, 0, 1, 1, 1, 2, 1, 2, 3);
    }

    private static void notStuckIsNoTokenYet() {
        // No token is found behind xx, but the machine is not stuck there.
        Desk desk = Desk.made("a=x;b=xxx[^\\_-~];c=y;S:a S|c S|;");
        Desk.due("xxx", desk.feed("xxx"), 0);
        Desk.due("not stuck, though nothing longer is found", desk.stream(4), 0);
        Desk.due("y", desk.feed("y"), 0);
        desk.foundIs("each x by itself", 0, 0, 1, 0, 1, 2, 0, 2, 3);
        Desk.due("finish", desk.finish(), 0);
        Desk.due("tokens", desk.stream(4), 4);
    }

    /** The longest row behind which it was in a state that FINDS one. */
    private static void longestRowGoesBack() {
        Desk desk = Desk.made("a=x;b=xyx;c=xyxyxu;d=y;S:a S|b S|c S|d S|;");
        Desk.due("feed", desk.feed("xyxyxz"), 1);
        desk.foundIs("b, then d, a", 1, 0, 3, 3, 3, 4, 0, 4, 5);
        desk.streamIs("z is no token", 6, 1, 5, 0, 3, 3, 1);
        Desk ended = Desk.made("a=x;b=xyx;c=xyxyxu;d=y;S:a S|b S|c S|d S|;");
        ended.feed("xyxyx");
        Desk.due("not stuck", ended.stream(4), 0);
        Desk.due("finish", ended.finish(), 0);
        ended.foundIs("the same", 1, 0, 3, 3, 3, 4, 0, 4, 5);
        Desk whole = Desk.made("a=x;b=xyx;c=xyxyxu;d=y;S:a S|b S|c S|d S|;");
        whole.feed("xyxyxu");
        Desk.due("finish", whole.finish(), 0);
        whole.foundIs("the longest", 2, 0, 6);
    }

    /** By finish(), with no byte behind the last token, there is no further one. */
    private static void finishWithoutBytesBehind() {
        Desk desk = Desk.made("a=x;S:a|;");
        Desk.due("no bytes", desk.finish(), 0);
        desk.streamIs("no bytes", 0, 0, -1, 1, 0, 1, 0);
        desk.reset();
        desk.feed("x");
        Desk.due("one", desk.finish(), 0);
        desk.streamIs("one", 1, 0, -1, 1, 1, 1, 0);
        Desk none = Desk.made("S:;");
        Desk.due("no tokens at all", none.finish(), 0);
        none.reset();
        Desk.due("no byte is of a token", none.feed("x"), 1);
        none.streamIs("no token", 1, 1, 0, 0, 0, 0, 1);
    }

    /** Where it is stuck and there is no such row, it is ERROR 1, at the place where it began. */
    private static void error1() {
        Desk desk = Desk.made("a=xyz;b=y;S:a S|b S|;");
        for (String bytes : new String[] {"u", "xu", "xyu", "xx", "z", "\u0000", "\u00ff", "xyxyz"}) {
            Desk.due("feed of " + bytes, desk.feed(bytes), 1);
            desk.streamIs(bytes, bytes.length(), 1, 0, 0, 0, 0, 1);
            desk.reset();
        }
        Desk.due("behind a token", desk.feed("xyzyxyu"), 1);
        desk.streamIs("behind two tokens", 7, 1, 4, 0, 2, 2, 1);
        desk.foundIs("two tokens", 0, 0, 3, 1, 3, 4);
        desk.reset();
        Desk.due("not yet", desk.feed("xy"), 0);
        Desk.due("now", desk.feed("x"), 1);
        desk.streamIs("at its begin", 3, 1, 0, 0, 0, 0, 1);
    }

    /** .. or by finish() at the end. */
    private static void error1ByFinish() {
        Desk desk = Desk.made("a=xyz;b=y;S:a S|b S|;");
        String[] bytes = {"x", "xy", "yx", "xyzx", "xyzyxy"};
        int[] begins = {0, 0, 1, 3, 4};
        for (int k = 0; k < bytes.length; k++) {
            Desk.due("feed of " + bytes[k], desk.feed(bytes[k]), 0);
            Desk.due("finish of " + bytes[k], desk.finish(), 1);
            Desk.due("place", desk.stream(2), begins[k]);
            Desk.due("finished", desk.stream(3), 1);
            Desk.due("THE END does not go to the parser", desk.stream(6), 1);
            desk.reset();
        }
    }

    /** An error is there until reset(); nothing goes on behind it: bytes behind are not looked at. */
    private static void nothingGoesOnBehindAnError() {
        String[] bytes = {"z", "xxy", "yy"};
        int[] errors = {1, 2, 2};
        int[] places = {0, 1, 1};
        for (int k = 0; k < bytes.length; k++) {
            Desk desk = Desk.made("a=x;b=y;-s=u;S:a b|b;");
            Desk.due("the error", desk.feed(bytes[k] + "u"), errors[k]);
            int tokens = desk.stream(4);
            int rules = desk.stream(5);
            int pile = desk.stream(6);
            int length = bytes[k].length() + 1;
            for (String more : new String[] {"x", "y", "zzzz", "xyxyxyxy"}) {
                length += more.length();
                Desk.due("it is there", desk.feed(more), errors[k]);
                desk.streamIs("behind it", length, errors[k], places[k], 0, tokens, rules, pile);
            }
            Desk.due("finish", desk.finish(), errors[k]);
            desk.streamIs("finished", length, errors[k], places[k], 1, tokens, rules, pile);
            Desk.due("reset", desk.reset(), length);
            desk.streamIs("anew", 0, 0, -1, 0, 0, 0, 1);
            desk.feed("xuy");
            Desk.due("accepted", desk.finish(), 0);
        }
        // A token that comes from the bytes before the error in one feed goes to the parser.
        Desk one = Desk.made("a=x;b=y;S:a a b;");
        Desk.due("the third", one.feed("xxxyyyyy"), 2);
        one.foundIs("no fourth", 0, 0, 1, 0, 1, 2, 0, 2, 3);
    }

    /** Without a rule it is ERROR 2. */
    private static void error2WithoutARule() {
        Desk desk = Desk.made("a=x;b=y;c=z;S:T b;T:a U|;U:c|;");
        Desk.due("c for S", desk.feed("zx"), 2);
        desk.streamIs("nothing is noted", 2, 2, 0, 0, 1, 0, 1);
        desk.reset();
        // U is on the pile before b, and no rule of it is for a.
        Desk.due("a for U", desk.feed("xxx"), 2);
        desk.streamIs("what was noted stays", 3, 2, 1, 0, 2, 2, 2);
        Desk.due("noted", desk.noted(1, 0), 1);
        Desk.due("no further one", desk.noted(2, 0), -1);
        Desk deep = Desk.made("a=x;b=y;c=z;S:a T U b;T:V;U:c|;V:;");
        Desk.due("a for T", deep.feed("xxx"), 2);
        deep.streamIs("no rule of T for a", 3, 2, 1, 0, 2, 1, 3);
    }

    /** Then the uppermost must be that token, else it is ERROR 2. */
    private static void error2WithAnotherToken() {
        Desk desk = Desk.made("a=x;b=y;S:a b a;");
        Desk.due("xx", desk.feed("xxx"), 2);
        desk.streamIs("a for b", 3, 2, 1, 0, 2, 1, 2);
        Desk rules = Desk.made("a=x;b=y;S:a T b;T:U;U:;");
        Desk.due("xyy", rules.feed("xyyx"), 2);
        rules.streamIs("the pile is empty", 4, 2, 2, 0, 3, 3, 0);
        // Rules that were noted for the token that then does not fit stay.
        Desk noted = Desk.made("a=x;b=y;c=z;S:T U a|c S b;T:;U:;");
        Desk.due("zzxx", noted.feed("zzxxx"), 2);
        noted.streamIs("a for b", 5, 2, 3, 0, 4, 5, 2);
    }

    /** Also when the pile is empty. */
    private static void error2OfAnEmptyPile() {
        Desk desk = Desk.made("a=x;b=y;S:a;");
        Desk.due("one", desk.feed("xx"), 0);
        desk.streamIs("nothing is left on the pile", 2, 0, -1, 0, 1, 1, 0);
        desk.expectedIs("THE END alone", 2, 0b100);
        Desk.due("one more", desk.finish(), 2);
        desk.streamIs("another one", 2, 2, 1, 1, 2, 1, 0);
    }

    /** THE END fits an empty pile alone, when all symbols are gone so. */
    private static void theEnd() {
        Desk tokens = Desk.made("a=x;b=y;S:a b;");
        tokens.feed("x");
        Desk.due("a token is left", tokens.finish(), 2);
        tokens.streamIs("b", 1, 2, 1, 1, 1, 1, 1);
        Desk symbols = Desk.made("a=x;b=y;S:a T U;T:;U:V V;V:;");
        symbols.feed("x");
        Desk.due("all are gone", symbols.finish(), 0);
        symbols.streamIs("their rules are noted", 1, 0, -1, 1, 1, 5, 0);
        Desk partly = Desk.made("a=x;b=y;S:a T b|b T;T:;");
        partly.feed("x");
        Desk.due("T is before b alone, and THE END", partly.finish(), 2);
        partly.streamIs("T is gone", 1, 2, 1, 1, 1, 2, 1);
        Desk kept = Desk.made("a=x;b=y;S:a T b;T:;");
        kept.feed("x");
        Desk.due("T is before b alone", kept.finish(), 2);
        kept.streamIs("T is there", 1, 2, 1, 1, 1, 1, 2);
    }

    /** A token puts S and seven b, of which S is one less, on the pile; so many were there before. */
    private static Desk pile(String behind, int tokens) {
        Desk desk = Desk.made("a=x;b=y;R:S" + behind + ";S:a S b b b b b b|;");
        desk.feed(Desk.times("x", tokens));
        return desk;
    }

    /** The pile would hold more than 6000 behind it. */
    private static void pileOf6000() {
        // Behind 998 of them the pile is 5993; the next rule makes it 6000.
        Desk desk = pile(" b b b b", 999);
        desk.streamIs("998", 999, 0, -1, 0, 998, 999, 5993);
        Desk.due("6000 fit", desk.expected(0), true);
        Desk.due("the last one comes", desk.feed("y"), 0);
        desk.streamIs("999", 1000, 0, -1, 0, 999, 1000, 5999);
        Desk.due("y goes", desk.feed("y"), 0);
        desk.streamIs("the row of none", 1001, 0, -1, 0, 1000, 1001, 5997);
        Desk.due("5999", pile(" b b b", 999).expected(0), true);
    }

    private static void pileOf6001() {
        Desk desk = pile(" b b b b b", 999);
        desk.streamIs("998", 999, 0, -1, 0, 998, 999, 5994);
        Desk.due("6001 do not fit", desk.expected(0), false);
        Desk.due("a row of none does", desk.expected(1), true);
        Desk.due("the last one comes", desk.feed("y"), 3);
        desk.streamIs("it is not noted, the pile stays", 1000, 3, 998, 0, 999, 999, 5994);
        Desk.due("the last one that is noted", desk.noted(998, 0), 1);
        Desk.due("no further one", desk.noted(999, 0), -1);
        Desk.due("the token that went", desk.found(998, 1), 998);
        Desk.due("no further one", desk.found(999, 0), -1);
        Desk.due("it is there", desk.feed("y"), 3);
        Desk.due("finish", desk.finish(), 3);
        Desk.due("reset", desk.reset(), 1001);
        desk.streamIs("anew", 0, 0, -1, 0, 0, 0, 1);
    }

    private static void pileOfTheEnd() {
        // THE END puts eight U in the place of S.
        String text = "a=x;R:S;S:a S T T T T T T|U U U U U U U U;T:;U:;";
        Desk desk = Desk.made(text.replace("R:S", "R:S T T T T"));
        desk.feed(Desk.times("x", 998));
        desk.streamIs("997", 998, 0, -1, 0, 997, 998, 5 + 6 * 997);
        Desk.due("6000 fit", desk.finish(), 0);
        desk.streamIs("all went", 998, 0, -1, 1, 998, 1 + 999 + 8 + 4 + 6 * 998, 0);
        Desk full = Desk.made(text.replace("R:S", "R:S T T T T T"));
        full.feed(Desk.times("x", 998));
        Desk.due("6001 do not", full.finish(), 3);
        full.streamIs("it is not noted, the pile stays", 998, 3, 998, 1, 998, 999, 6 + 6 * 998);
    }

    /** Symbols, each of which is the next one, up to the token: so many rules for each token, and one for the end. */
    private static String chain(int rules) {
        StringBuilder text = new StringBuilder("a=x;b=y;S:");
        for (int k = 1; k < rules; k++) {
            text.append((char) ('A' + k)).append(k == 1 ? " S|;" : ";").append((char) ('A' + k)).append(':');
        }
        return text.append("a;").toString();
    }

    /** ERROR 3: a 20001st rule would be noted. */
    private static void rules20000() {
        // 2857 tokens with 7 rules each are 19999; one more by THE END.
        Desk desk = Desk.made(chain(7));
        Desk.due("feed", desk.feed(Desk.times("x", 2857)), 0);
        desk.streamIs("2856", 2857, 0, -1, 0, 2856, 19992, 1);
        Desk.due("room for 19999", desk.expected(0), true);
        Desk.due("finish", desk.finish(), 0);
        desk.streamIs("20000", 2857, 0, -1, 1, 2857, 20000, 0);
        Desk.due("the last one", desk.noted(19999, 0), 1);
        Desk.due("its row", desk.noted(19999, 1), 19992);
        Desk.due("tokens before it", desk.noted(19999, 3), 2857);
        Desk.due("no further one", desk.noted(20000, 0), -1);
    }

    private static void rules20001() {
        Desk desk = Desk.made(chain(7));
        Desk.due("feed", desk.feed(Desk.times("x", 2857)), 0);
        Desk.due("19999", desk.feed("x"), 0);
        desk.streamIs("2857", 2858, 0, -1, 0, 2857, 19999, 1);
        Desk.due("7 more are too many", desk.expected(0), false);
        Desk.due("one more is not", desk.expected(2), true);
        Desk.due("one token more", desk.feed("x"), 3);
        // The 20000th is noted, the next one is not.
        desk.streamIs("an error", 2859, 3, 2857, 0, 2858, 20000, 2);
        Desk.due("the last one", desk.noted(19999, 0), 0);
        Desk.due("no further one", desk.noted(20000, 0), -1);
        Desk.due("finish", desk.finish(), 3);
    }

    private static void rules20001OfTheEnd() {
        Desk desk = Desk.made(chain(8));
        desk.feed(Desk.times("x", 2500));
        desk.streamIs("2499", 2500, 0, -1, 0, 2499, 19992, 1);
        Desk.due("room for 20000", desk.expected(0), true);
        Desk.due("THE END would be the 20001st", desk.finish(), 3);
        desk.streamIs("an error", 2500, 3, 2500, 1, 2500, 20000, 1);
        Desk less = Desk.made(chain(8));
        less.feed(Desk.times("x", 2499));
        Desk.due("19993", less.finish(), 0);
        Desk.due("noted", less.stream(5), 19993);
    }

    /** Again it answers the same. BAD: nothing is made. */
    private static void finishAgain() {
        Desk desk = new Desk();
        Desk.due("nothing is made", desk.finish(), -1);
        desk.build("a=x;b=y;S:a S|;");
        String[] bytes = {"", "x", "xxx", "y", "xxy", "z", "xz"};
        int[] answers = {0, 0, 0, 2, 2, 1, 1};
        for (int k = 0; k < bytes.length; k++) {
            desk.feed(bytes[k]);
            for (int n = 0; n < 3; n++) {
                Desk.due("finish of " + bytes[k], desk.finish(), answers[k]);
                Desk.due("finished", desk.stream(3), 1);
                Desk.due("the error", desk.stream(1), answers[k]);
                Desk.due("bytes", desk.stream(0), bytes[k].length());
            }
            int rules = desk.stream(5);
            desk.finish();
            Desk.due("no further rules", desk.stream(5), rules);
            desk.reset();
        }
    }

    /** How many bytes it had. BAD: nothing is made. */
    private static void resetAnswersBytes() {
        Desk desk = new Desk();
        Desk.due("nothing is made", desk.reset(), -1);
        desk.type("S:|;");
        Desk.due("nothing is made", desk.reset(), -1);
        desk.build();
        Desk.due("nothing is made", desk.reset(), -1);
        desk.build("a=x;S:a S|;");
        Desk.due("no bytes", desk.reset(), 0);
        for (int n = 1; n <= 9; n++) {
            desk.feed(Desk.times("x", n));
            Desk.due("bytes", desk.reset(), n);
            Desk.due("none more", desk.reset(), 0);
        }
        desk.feed("xzx");
        Desk.due("those that were not looked at, too", desk.reset(), 3);
    }

    /** The stream has no bytes, no error, and is not finished. */
    private static void resetOfEachState() {
        String[] bytes = {"", "x", "xy", "xxy", "z", "xyx", "xyu"};
        for (String some : bytes) {
            for (boolean ended : new boolean[] {false, true}) {
                Desk desk = Desk.made("a=x;b=y;c=xyxz;S:a b S|;");
                desk.feed(some);
                if (ended) {
                    desk.finish();
                }
                Desk.due("bytes", desk.reset(), some.length());
                desk.streamIs("anew", 0, 0, -1, 0, 0, 0, 1);
                Desk.due("found", desk.found(0, 0), -1);
                Desk.due("noted", desk.noted(0, 0), -1);
                desk.expectedIs("anew", 3, 0b1001);
                Desk.due("feed", desk.feed("xyxy"), 0);
                Desk.due("finish", desk.finish(), 0);
                desk.streamIs("anew", 4, 0, -1, 1, 4, 3, 0);
                Desk.due("tokens gone before the second rule", desk.noted(1, 3), 2);
            }
        }
    }

    /** The pile holds THE START at first, which is in no row. */
    private static void resetPutsTheStartAnew() {
        Desk desk = Desk.made("a=x;b=y;S:a b a T;T:b T|;");
        desk.feed("xyxyyyy");
        Desk.due("a symbol of a row is left", desk.stream(6), 1);
        for (int k = 0; k < 2; k++) {
            if (k == 1) {
                desk.finish();
            }
            desk.reset();
            desk.feed("xy");
            int[] due = {0, -1, 0, 0};
            for (int what = 0; what < 4; what++) {
                Desk.due("THE START, " + what, desk.noted(0, what), due[what]);
            }
            desk.feed("xyyy");
        }
    }

    /** Of the stream: what = 0 .. 6. BAD. */
    private static void stream() {
        Desk desk = Desk.made("a=x;S:a S|;");
        for (int what : new int[] {Integer.MIN_VALUE, -2, -1, 7, 8, 100, Integer.MAX_VALUE}) {
            Desk.due("stream " + what, desk.stream(what), -1);
            Desk.due("stream " + what, new Desk().stream(what), -1);
        }
        desk.streamIs("at first", 0, 0, -1, 0, 0, 0, 1);
        Desk.due("finish", desk.finish(), 0);
        desk.streamIs("finished", 0, 0, -1, 1, 0, 1, 0);
    }

    /** Of ERROR 1 of the byte at which it began, of 2 and 3 where the token begins (of THE END how many bytes). */
    private static void placeOfTheError() {
        Desk desk = Desk.made("a=xx;b=yy;-s=\\_;S:a b;");
        String[] bytes = {"xx yz", "xx  xx ", " yy", "xxyyyyxx", "xx yy  yy "};
        int[] errors = {1, 2, 2, 2, 2};
        int[] places = {3, 4, 1, 4, 7};
        for (int k = 0; k < bytes.length; k++) {
            desk.feed(bytes[k]);
            Desk.due("error of " + bytes[k], desk.finish(), errors[k]);
            Desk.due("its place in " + bytes[k], desk.stream(2), places[k]);
            desk.reset();
            Desk.due("without one", desk.stream(2), -1);
        }
        String[] ends = {"", "xx", "xx ", "   "};
        for (String some : ends) {
            desk.feed(some);
            Desk.due("no error yet", desk.stream(2), -1);
            Desk.due("THE END", desk.finish(), 2);
            Desk.due("how many bytes there are", desk.stream(2), some.length());
            desk.reset();
        }
        // An error at the place 0 is not none.
        Desk.due("error", desk.feed("zz"), 1);
        Desk.due("its place", desk.stream(2), 0);
    }

    /** Tokens that went to the parser, with that of an error, without THE END. */
    private static void tokensThatWent() {
        Desk desk = Desk.made("a=x;b=y;-s=z;S:a S|;");
        desk.feed("xzxz");
        Desk.due("two", desk.stream(4), 2);
        Desk.due("finish", desk.finish(), 0);
        Desk.due("without THE END", desk.stream(4), 2);
        desk.reset();
        desk.feed("xzyx");
        Desk.due("with that of an error", desk.stream(4), 2);
        desk.foundIs("with that of an error", 0, 0, 1, 1, 2, 3);
        desk.reset();
        desk.feed("xzu");
        Desk.due("what is no token is none", desk.stream(4), 1);
        Desk other = Desk.made("a=x;b=y;S:a b;");
        other.feed("x");
        Desk.due("an error of THE END", other.finish(), 2);
        Desk.due("is none of these", other.stream(4), 1);
    }

    /** Of token k (from 0) that went to the parser. BAD. */
    private static void found() {
        Desk desk = Desk.made("a=x+;-s=\\_;b=y;S:a S|b S|;");
        Desk.due("none", desk.found(0, 0), -1);
        desk.feed("xx yxxx");
        int[][] due = {{0, 0, 2}, {2, 3, 4}};
        for (int k = -1; k <= 3; k++) {
            for (int what = -1; what <= 4; what++) {
                boolean is = k >= 0 && k < 2 && what >= 0 && what < 3;
                Desk.due("found " + k + " " + what, desk.found(k, what), is ? due[k][what] : -1);
            }
        }
        for (int far : FAR) {
            Desk.due("found " + far, desk.found(far, 0), -1);
            Desk.due("found 0 " + far, desk.found(0, far), -1);
        }
        desk.finish();
        Desk.due("by the end", desk.found(2, 2), 7);
        Desk.due("THE END is none", desk.found(3, 0), -1);
    }

    /** Of the k-th rule that was noted. BAD. */
    private static void noted() {
        Desk desk = Desk.made("a=x;b=y;S:a T S|;T:b;");
        Desk.due("none", desk.noted(0, 0), -1);
        desk.feed("xyxy");
        desk.finish();
        int[][] due = {{0, -1, 0, 0}, {2, 0, 1, 1}, {0, 0, 2, 2}, {2, 2, 1, 3}, {1, 2, 2, 4}};
        for (int k = -1; k <= 6; k++) {
            for (int what = -1; what <= 5; what++) {
                boolean is = k >= 0 && k < 5 && what >= 0 && what < 4;
                Desk.due("noted " + k + " " + what, desk.noted(k, what), is ? due[k][what] : -1);
            }
        }
        for (int far : FAR) {
            Desk.due("noted " + far, desk.noted(far, 0), -1);
            Desk.due("noted 0 " + far, desk.noted(0, far), -1);
        }
    }

    /** -1 for THE START; at place 0 for THE START. */
    private static void notedOfTheStart() {
        Desk desk = Desk.made("a=x;S:a S|;");
        desk.feed("xx");
        int[][] due = {{0, -1, 0, 0}};
        for (int what = 0; what < 4; what++) {
            Desk.due("THE START", desk.noted(0, what), due[0][what]);
        }
        Desk.due("no further one", desk.noted(1, 1), -1);
        desk.finish();
        // The symbol of THE START within a row is in that row.
        Desk.due("in the first one's row", desk.noted(1, 1), 0);
        Desk.due("at its place", desk.noted(1, 2), 1);
        // The eighth of a row.
        Desk last = Desk.made("a=x;S:a a a a a a a T;T:a;");
        last.feed("xxxxxxxx");
        last.finish();
        Desk.due("at its place", last.noted(1, 2), 7);
        Desk.due("behind seven", last.noted(1, 3), 7);
    }

    /** How many tokens had gone off the pile before it was noted. */
    private static void goneBefore() {
        Desk desk = Desk.made("a=x;b=y;c=u;-s=z;S:T U V b;T:a|;U:;V:c V|;");
        desk.feed("zxzuuzy");
        Desk.due("finish", desk.finish(), 0);
        int[] gone = {0, 0, 1, 1, 2, 3};
        for (int k = 0; k < gone.length; k++) {
            Desk.due("gone before " + k, desk.noted(k, 3), gone[k]);
        }
        // A token that does not fit does not go.
        Desk other = Desk.made("a=x;b=y;S:a T b;T:U;U:;");
        other.feed("xxx");
        other.streamIs("not x", 3, 2, 1, 0, 2, 1, 2);
        other.reset();
        other.feed("xyy");
        Desk.due("before U", other.noted(2, 3), 1);
    }

    /** Whether a token, or THE END, would be no error of the parser if it came next now (nothing changes). */
    private static void expected() {
        Desk desk = Desk.made("a=x;b=y;-s=z;S:a S b|;");
        desk.expectedIs("at first", 3, 0b1001);
        desk.feed("x");
        desk.expectedIs("x did not go to the parser yet", 3, 0b1001);
        desk.feed("x");
        desk.expectedIs("x", 3, 0b0011);
        desk.streamIs("nothing changed", 2, 0, -1, 0, 1, 1, 2);
        desk.feed("yz");
        desk.expectedIs("xxy", 3, 0b0010);
        desk.feed("yz");
        desk.expectedIs("xxyy", 3, 0b1000);
        desk.streamIs("nothing changed", 6, 0, -1, 0, 4, 3, 0);
        Desk.due("finish", desk.finish(), 0);
        int[] parents = {-1, 0, 1};
        for (int k = 0; k < 3; k++) {
            Desk.due("parent of " + k, desk.noted(k, 1), parents[k]);
        }
    }

    /** False without such a one, for a token that is SKIPPED, with an error, or finished. */
    private static void expectedIsFalse() {
        Desk desk = Desk.made("a=x;-s=z;S:a S|;");
        desk.expectedIs("THE END, too", 2, 0b101);
        for (int far : FAR) {
            Desk.due("expected " + far, desk.expected(far), false);
        }
        desk.feed("zu");
        desk.expectedIs("with an error", 2, 0);
        desk.reset();
        desk.expectedIs("without one", 2, 0b101);
        desk.finish();
        desk.expectedIs("finished", 2, 0);
        desk.reset();
        desk.expectedIs("anew", 2, 0b101);
        Desk other = Desk.made("a=x;b=y;S:a b;");
        other.feed("xxx");
        other.expectedIs("with error 2", 2, 0);
        Desk nothing = new Desk();
        nothing.expectedIs("nothing is made", 2, 0);
    }

    private static void expectedAtTheEdges() {
        // A symbol's cell has a rule, but the token does not fit what is behind it.
        Desk desk = Desk.made("a=x;b=y;c=z;S:c T b|a T a;T:;");
        desk.feed("zz");
        desk.expectedIs("b alone, though T has a cell with a", 3, 0b010);
        Desk.due("T has it", desk.cell(1, 0), 2);
        desk.reset();
        desk.feed("xx");
        desk.expectedIs("a alone", 3, 0b001);
        Desk.due("and THE END", desk.finish(), 0);
        Desk end = Desk.made("a=x;b=y;S:a T b|b T;T:;");
        end.feed("xx");
        end.expectedIs("T has a cell with THE END", 2, 0b010);
        end.reset();
        end.feed("yy");
        end.expectedIs("THE END alone", 2, 0b100);
    }

    private static void expectedPutsAllBack() {
        Desk desk = Desk.made("a=x;b=y;c=z;S:a T U b;T:c U T a|;U:V V V b;V:;");
        desk.feed("xx");
        int[][] due = {{0, -1, 0, 0}, {1, 0, 1, 1}, {3, 1, 1, 2}, {4, 2, 0, 2}, {4, 2, 1, 2}, {4, 2, 2, 2},
            {2, 1, 2, 3}, {3, 0, 2, 4}};
        desk.reset();
        for (String bytes : new String[] {"x", "z", "y", "x", "y", "y", ""}) {
            desk.feed(bytes);
            for (int token = 0; token <= 3; token++) {
                desk.expected(token);
            }
        }
        Desk.due("finish", desk.finish(), 0);
        for (int k = 0; k < due.length; k++) {
            for (int what = 0; what < 4; what++) {
                Desk.due("noted " + k + " " + what, desk.noted(k, what), due[k][what]);
            }
        }
    }

    /** A token that is not SKIPPED goes to the parser at once. */
    private static void skippedTokens() {
        Desk desk = Desk.made("-s=z+;a=x;S:a;");
        desk.feed("zzzxz");
        desk.streamIs("one", 5, 0, -1, 0, 1, 1, 0);
        Desk.due("finish", desk.finish(), 0);
        desk.foundIs("one", 1, 3, 4);
        Desk first = Desk.made("-s=x;a=x;S:;");
        first.feed("xxx");
        Desk.due("the first token by number is SKIPPED", first.finish(), 0);
        first.streamIs("none went", 3, 0, -1, 1, 0, 1, 0);
        Desk longer = Desk.made("-s=x;a=xx;S:a S|;");
        longer.feed("xxxxx");
        Desk.due("the longest", longer.finish(), 0);
        longer.foundIs("two", 1, 0, 2, 1, 2, 4);
    }
}
