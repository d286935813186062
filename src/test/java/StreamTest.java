/** Promises 14 to 20: streams, the scanner's and the parser's work on them, and their errors. */
public final class StreamTest {
    private static final int[] WRONG = {Integer.MIN_VALUE, -1, 4001, Integer.MAX_VALUE};

    public static void main(String[] args) {
        feed();
        feedIsFull();
        longestRows();
        whenTokensAreFound();
        error1();
        error2();
        error2OfTheEnd();
        error3OfThePile();
        error3OfNotedRules();
        finish();
        reset();
        stream();
        found();
        noted();
        expected();
        expectedChangesNothing();
        expectedWithErrors();
        skipped();
        allBytes();
        Desk.end();
    }

    private static void feed() {
        Desk desk = Desk.made("a=a;b=b;S:a S|b S|;");
        for (int n : new int[] {Integer.MIN_VALUE, -1, 0, 9, Integer.MAX_VALUE}) {
            Desk.due("feed n " + n, desk.feed(97, n), -1);
        }
        Desk.due("none was fed", desk.stream(0), 0);
        // The highest of the lowest three comes first.
        Desk.due("feed", desk.feed(0x7a7a7a0000000000L | Desk.packed("aab"), 3), 0);
        Desk.due("feed", desk.feed(Desk.packed("bbbbaaaa"), 8), 0);
        Desk.due("bytes", desk.stream(0), 11);
        desk.finish();
        int[] tokens = {0, 0, 1, 1, 1, 1, 1, 0, 0, 0, 0};
        for (int k = 0; k < tokens.length; k++) {
            Desk.due("token " + k, desk.found(k, 0), tokens[k]);
        }
        Desk.due("finished", desk.feed(97, 1), -1);
        Desk.due("none was fed", desk.stream(0), 11);
        desk.reset();
        Desk.due("not finished", desk.feed(97, 1), 0);
    }

    private static void feedIsFull() {
        Desk desk = Desk.made("a=a;S:a S|;");
        Desk.due("3992", desk.feed(Desk.times("a", 3992)), 0);
        Desk.due("4000", desk.feed("aaaaaaaa"), 0);
        Desk.due("4000 and 1", desk.feed("a"), -2);
        Desk.due("n before FULL", desk.feed(0, 0), -1);
        Desk.due("finish", desk.finish(), 0);
        Desk.due("BAD before FULL", desk.feed("a"), -1);
        Desk.due("none was fed", desk.stream(0), 4000);
        Desk.due("tokens", desk.stream(4), 4000);
        Desk.due("rules", desk.stream(5), 4001);
        Desk odd = Desk.made("a=a;S:a S|;");
        Desk.due("3996", odd.feed(Desk.times("a", 3996)), 0);
        Desk.due("3996 and 5", odd.feed("aaaaa"), -2);
        Desk.due("none was fed", odd.stream(0), 3996);
        Desk.due("3996 and 4", odd.feed("aaaa"), 0);
        Desk.due("4000 and 8", odd.feed("aaaaaaaa"), -2);
        Desk.due("tokens", odd.stream(4), 3999);
        Desk failed = Desk.made("a=a;S:;");
        Desk.due("an error", failed.feed("xaaaaaaa"), 1);
        Desk.due("the error that was there", failed.feed(Desk.times("a", 3992)), 1);
        Desk.due("bytes that were not looked at count", failed.feed("a"), -2);
        failed.streamIs("with an error", 4000, 1, 0, 0, 0, 0, 1);
    }

    private static void longestRows() {
        Desk desk = Desk.made("a=x;b=xxxy;c=z+;d=zzu;S:a S|b S|c S|d S|;");
        Desk.due("feed", desk.feed("xxxx"), 0);
        desk.foundIs("stuck at the fourth x", 0, 0, 1);
        desk.feed("yxx");
        desk.foundIs("stuck behind y", 0, 0, 1, 1, 1, 5);
        desk.feed("z");
        desk.foundIs("what is behind is looked at anew", 0, 0, 1, 1, 1, 5, 0, 5, 6, 0, 6, 7);
        desk.feed("zuz");
        desk.finish();
        desk.foundIs("the end", 0, 0, 1, 1, 1, 5, 0, 5, 6, 0, 6, 7, 3, 7, 10, 2, 10, 11);
        Desk first = Desk.made("if=if;id=[a-z]+;-s=\\_;S:if S|id S|;");
        first.feed("if iff i fi");
        first.finish();
        first.foundIs("the first token, the longest row", 0, 0, 2, 1, 3, 6, 1, 7, 8, 1, 9, 11);
        Desk back = Desk.made("n=[0-9]+(\\.[0-9]+)?;d=\\.;S:n S|d S|;");
        back.feed("1.2.3..4.");
        back.finish();
        back.foundIs("back to the longest", 0, 0, 3, 1, 3, 4, 0, 4, 5, 1, 5, 6, 1, 6, 7, 0, 7, 8, 1, 8, 9);
    }

    private static void whenTokensAreFound() {
        Desk desk = Desk.made("a=x;b=xy*z;S:a S|b S|;");
        desk.feed("x");
        Desk.due("not yet stuck", desk.stream(4), 0);
        desk.feed("z");
        Desk.due("not stuck, though no byte leads on", desk.stream(4), 0);
        desk.feed("x");
        desk.foundIs("stuck", 1, 0, 2);
        desk.feed("y");
        Desk.due("not yet", desk.stream(4), 1);
        Desk.due("by the end", desk.finish(), 1);
        desk.foundIs("the end", 1, 0, 2, 0, 2, 3);
        desk.streamIs("y begins nothing", 4, 1, 3, 1, 2, 2, 1);
    }

    private static void error1() {
        Desk desk = Desk.made("a=xy;b=xyzxyu;S:a S|b S|;");
        Desk.due("x", desk.feed("x"), 0);
        Desk.due("finish", desk.finish(), 1);
        desk.streamIs("by finish()", 1, 1, 0, 1, 0, 0, 1);
        desk.reset();
        Desk.due("xyxx", desk.feed("xyxxzzzz"), 1);
        desk.streamIs("stuck", 8, 1, 2, 0, 1, 1, 1);
        Desk.due("it is there", desk.feed("xy"), 1);
        desk.streamIs("nothing goes on", 10, 1, 2, 0, 1, 1, 1);
        Desk.due("finish", desk.finish(), 1);
        desk.streamIs("finished", 10, 1, 2, 1, 1, 1, 1);
        desk.reset();
        Desk.due("behind the longest row", desk.feed("xyzxyx"), 1);
        desk.streamIs("z begins nothing", 6, 1, 2, 0, 1, 1, 1);
        desk.reset();
        Desk.due("no error yet", desk.feed("xyx"), 0);
        Desk.due("finish", desk.finish(), 1);
        desk.streamIs("a row that does not end", 3, 1, 2, 1, 1, 1, 1);
    }

    private static void error2() {
        Desk desk = Desk.made("a=a;b=b;c=c;S:T b;T:a U|;U:c|;");
        Desk.due("aa", desk.feed("aab"), 2);
        desk.foundIs("that of the error counts", 0, 0, 1, 0, 1, 2);
        desk.streamIs("no rule", 3, 2, 1, 0, 2, 2, 2);
        Desk.due("it is there", desk.feed("b"), 2);
        Desk.due("finish", desk.finish(), 2);
        desk.streamIs("nothing goes on", 4, 2, 1, 1, 2, 2, 2);
        desk.reset();
        Desk.due("c", desk.feed("cx"), 2);
        desk.streamIs("not even the first", 2, 2, 0, 0, 1, 0, 1);
        desk.reset();
        Desk.due("bb", desk.feed("bbb"), 2);
        desk.streamIs("the pile is empty", 3, 2, 1, 0, 2, 2, 0);
        Desk other = Desk.made("a=a;b=b;S:a b;");
        Desk.due("aa", other.feed("aaa"), 2);
        other.streamIs("another token", 3, 2, 1, 0, 2, 1, 1);
        // Rules that were noted before the error stay.
        Desk deep = Desk.made("a=a;b=b;c=c;S:T U a;T:b|;U:c|;");
        Desk.due("bb", deep.feed("bbb"), 2);
        deep.streamIs("U has no rule for b", 3, 2, 1, 0, 2, 2, 2);
        deep.reset();
        Desk.due("aa", deep.feed("aaa"), 2);
        deep.streamIs("all went", 3, 2, 1, 0, 2, 3, 0);
    }

    private static void error2OfTheEnd() {
        Desk desk = Desk.made("a=a;b=b;-s=\\_;S:T b;T:a U|;U:;");
        Desk.due("a", desk.feed("a  "), 0);
        Desk.due("finish", desk.finish(), 2);
        desk.streamIs("U has no rule for THE END", 3, 2, 3, 1, 1, 2, 2);
        Desk other = Desk.made("a=a;S:a T a;T:;");
        other.feed("a");
        Desk.due("finish", other.finish(), 2);
        other.streamIs("T has none", 1, 2, 1, 1, 1, 1, 2);
        Desk third = Desk.made("a=a;S:a a;");
        third.feed("a");
        Desk.due("finish", third.finish(), 2);
        third.streamIs("a token is on the pile", 1, 2, 1, 1, 1, 1, 1);
        Desk none = Desk.made("a=a;S:a;");
        Desk.due("finish", none.finish(), 2);
        none.streamIs("no bytes", 0, 2, 0, 1, 0, 0, 1);
    }

    private static void error3OfThePile() {
        // Four behind S, then S and six b for each a: 1000 of these go up to 6006.
        Desk desk = Desk.made("a=a;b=b;R:S b b b b;S:a S b b b b b b|;");
        Desk.due("999 a", desk.feed(Desk.times("a", 999)), 0);
        desk.streamIs("998", 999, 0, -1, 0, 998, 999, 5 + 6 * 998);
        Desk.due("6000 fit", desk.expected(0), true);
        Desk.due("1000 a", desk.feed("a"), 0);
        desk.streamIs("999", 1000, 0, -1, 0, 999, 1000, 5999);
        Desk.due("6006 do not", desk.expected(0), false);
        Desk.due("but b", desk.expected(1), true);
        desk.streamIs("nothing changed", 1000, 0, -1, 0, 999, 1000, 5999);
        Desk.due("1001 a", desk.feed("a"), 3);
        desk.streamIs("an error", 1001, 3, 999, 0, 1000, 1000, 5999);
        Desk.due("it is there", desk.feed("b"), 3);
        Desk.due("found", desk.found(999, 1), 999);
        Desk.due("noted", desk.noted(999, 0), 1);
        Desk.due("not noted", desk.noted(1000, 0), -1);
        Desk.due("expected", desk.expected(1), false);
        // With five behind S the 999th a would make it 6001.
        Desk more = Desk.made("a=a;b=b;R:S b b b b b;S:a S b b b b b b|;");
        more.feed(Desk.times("a", 999));
        Desk.due("6001 do not fit", more.expected(0), false);
        Desk.due("6001 do not fit", more.finish(), 3);
        more.streamIs("6001", 999, 3, 998, 1, 999, 999, 5994);
    }

    /** Symbols A .. , each of which is the next one, up to the token. */
    private static String chain(int n) {
        StringBuilder text = new StringBuilder("a=a;b=b;S:A S|b;");
        for (int k = 0; k < n; k++) {
            text.append((char) ('A' + k)).append(':');
            text.append(k == n - 1 ? 'a' : (char) ('A' + k + 1)).append(';');
        }
        return text.toString();
    }

    private static void error3OfNotedRules() {
        // S and fifteen more for each a; the b needs one.
        Desk desk = Desk.made(chain(15));
        Desk.due("1250 a", desk.feed(Desk.times("a", 1250)), 0);
        desk.streamIs("1249", 1250, 0, -1, 0, 1249, 1249 * 16, 1);
        Desk.due("room", desk.expected(0), true);
        Desk.due("a", desk.feed("b"), 0);
        desk.streamIs("1250", 1251, 0, -1, 0, 1250, 20000, 1);
        Desk.due("no room for a", desk.expected(0), false);
        Desk.due("no room for b", desk.expected(1), false);
        Desk.due("THE END fits nothing", desk.expected(2), false);
        Desk.due("b", desk.finish(), 3);
        desk.streamIs("an error", 1251, 3, 1250, 1, 1251, 20000, 1);
        Desk.due("the last one", desk.noted(19999, 0), 2 + 14);
        Desk.due("no further one", desk.noted(20000, 0), -1);
        desk.reset();
        Desk.due("anew", desk.feed("aab"), 0);
        Desk.due("anew", desk.finish(), 0);
        Desk later = Desk.made("a=a;S:A S|;A:a;");
        later.feed(Desk.times("a", 3000));
        Desk.due("6001 rules", later.finish(), 0);
        error3OfTheEnd();
    }

    private static void error3OfTheEnd() {
        Desk plain = Desk.made("a=a;S:A S|;A:B;B:C;C:D;D:E;E:F;F:G;G:H;H:a;");
        Desk.due("rows of nine", plain.feed(Desk.times("a", 2222)), 0);
        Desk.due("19999 noted", plain.finish(), 0);
        Desk.due("noted", plain.stream(5), 19999);
        Desk ten = Desk.made("a=a;S:A S|;A:B;B:C;C:D;D:E;E:F;F:G;G:H;H:I;I:a;");
        ten.feed(Desk.times("a", 2000));
        Desk.due("THE END needs a 20001st", ten.finish(), 3);
        ten.streamIs("THE END", 2000, 3, 2000, 1, 2000, 20000, 1);
    }

    private static void finish() {
        Desk desk = Desk.made("a=a;S:a;");
        desk.feed("a");
        for (int k = 0; k < 3; k++) {
            Desk.due("accepted", desk.finish(), 0);
            desk.streamIs("accepted", 1, 0, -1, 1, 1, 1, 0);
        }
        desk.reset();
        for (int k = 0; k < 3; k++) {
            Desk.due("not accepted", desk.finish(), 2);
        }
        Desk.due("a build leaves it", desk.build("x"), -11);
        Desk.due("again", desk.finish(), 2);
        Desk.due("a build begins anew", desk.build("S:;"), 0);
        Desk.due("accepted", desk.finish(), 0);
        desk.streamIs("the row of no bytes", 0, 0, -1, 1, 0, 1, 0);
        Desk many = Desk.made("a=x;b=x*y;S:a S|b S|;");
        many.feed("xxxxxxxx");
        Desk.due("nothing yet", many.stream(4), 0);
        Desk.due("all by finish()", many.finish(), 0);
        many.streamIs("all", 8, 0, -1, 1, 8, 9, 0);
    }

    private static void reset() {
        Desk desk = Desk.made("a=ab;S:a S|;");
        Desk.due("no bytes", desk.reset(), 0);
        desk.feed("ababa");
        Desk.due("five", desk.reset(), 5);
        desk.streamIs("anew", 0, 0, -1, 0, 0, 0, 1);
        Desk.due("no tokens", desk.found(0, 0), -1);
        Desk.due("no rules", desk.noted(0, 0), -1);
        Desk.due("what was half read is gone", desk.feed("b"), 1);
        desk.finish();
        Desk.due("one", desk.reset(), 1);
        desk.streamIs("anew", 0, 0, -1, 0, 0, 0, 1);
        desk.feed("abab");
        Desk.due("accepted", desk.finish(), 0);
        Desk.due("four", desk.reset(), 4);
        Desk.due("what is made stays", desk.many(0), 1);
    }

    private static void stream() {
        Desk desk = Desk.made("a=a;b=b;S:a S b|;");
        desk.streamIs("at first", 0, 0, -1, 0, 0, 0, 1);
        desk.feed("aaab");
        desk.streamIs("aaa", 4, 0, -1, 0, 3, 3, 4);
        desk.feed("b");
        desk.streamIs("aaab", 5, 0, -1, 0, 4, 4, 2);
        for (int wrong : new int[] {Integer.MIN_VALUE, -1, 7, Integer.MAX_VALUE}) {
            Desk.due("stream " + wrong, desk.stream(wrong), -1);
        }
    }

    private static void found() {
        Desk desk = Desk.made("a=a+;-s=\\_+;b=b;S:a S|b S|;");
        desk.feed(" aa b  aaa b");
        desk.foundIs("tokens that went", 0, 1, 3, 2, 4, 5, 0, 7, 10);
        for (int wrong : WRONG) {
            Desk.due("found " + wrong, desk.found(wrong, 0), -1);
            Desk.due("found 0 " + wrong, desk.found(0, wrong), -1);
        }
        Desk.due("found 0 3", desk.found(0, 3), -1);
    }

    private static void noted() {
        Desk desk = Desk.made("a=a;b=b;c=c;d=d;S:T a U S|;T:|b T;U:c V;V:d V|;");
        Desk.due("feed", desk.feed("bacdac"), 0);
        Desk.due("finish", desk.finish(), 0);
        int[][] due = {
            {0, -1, 0, 0}, {3, 0, 0, 0}, {2, 1, 1, 1}, {4, 0, 2, 2}, {5, 3, 1, 3}, {6, 4, 1, 4},
            {0, 0, 3, 4}, {2, 6, 0, 4}, {4, 6, 2, 5}, {6, 8, 1, 6}, {1, 6, 3, 6}};
        Desk.due("noted", desk.stream(5), due.length);
        for (int k = 0; k < due.length; k++) {
            for (int what = 0; what < 4; what++) {
                Desk.due("noted " + k + " " + what, desk.noted(k, what), due[k][what]);
            }
            Desk.due("noted " + k + " 4", desk.noted(k, 4), -1);
        }
        for (int wrong : WRONG) {
            Desk.due("noted " + wrong, desk.noted(wrong, 0), -1);
            Desk.due("noted 0 " + wrong, desk.noted(0, wrong), -1);
        }
        Desk.due("behind the last one", desk.noted(due.length, 0), -1);
    }

    private static void expected() {
        Desk desk = Desk.made("n=[0-9];p=\\+;l=\\(;r=\\);-s=\\_;E:T R;R:p T R|;T:n|l E r;");
        desk.expectedIs("at first", 5, 0b000101);
        desk.feed("1");
        desk.expectedIs("1 did not come yet", 5, 0b000101);
        desk.feed(" ");
        desk.expectedIs("1", 5, 0b100010);
        desk.feed("+(");
        desk.expectedIs("1+", 5, 0b000101);
        desk.feed("2 ");
        desk.expectedIs("1+(2", 5, 0b001010);
        desk.feed(") ");
        desk.expectedIs("1+(2)", 5, 0b100010);
        for (int wrong : WRONG) {
            Desk.due("expected " + wrong, desk.expected(wrong), false);
        }
        Desk.made("S:;").expectedIs("THE END alone", 0, 0b1);
    }

    private static void expectedChangesNothing() {
        Desk desk = Desk.made("a=a;b=b;c=c;S:T a U b;T:U;U:c U|;");
        desk.feed("cca");
        for (int k = 0; k < 3; k++) {
            desk.expectedIs("cc", 3, 0b101);
            desk.streamIs("cc", 3, 0, -1, 0, 2, 4, 4);
        }
        desk.feed("b");
        Desk.due("accepted", desk.finish(), 0);
        int[] rules = {0, 1, 2, 2, 3, 3};
        int[] parents = {-1, 0, 1, 2, 3, 0};
        int[] spots = {0, 0, 0, 1, 1, 2};
        for (int k = 0; k < rules.length; k++) {
            Desk.due("rule of " + k, desk.noted(k, 0), rules[k]);
            Desk.due("parent of " + k, desk.noted(k, 1), parents[k]);
            Desk.due("spot of " + k, desk.noted(k, 2), spots[k]);
        }
    }

    private static void expectedWithErrors() {
        Desk desk = Desk.made("a=a;S:a S|;");
        desk.expectedIs("no error", 1, 0b11);
        desk.feed("x");
        desk.expectedIs("an error", 1, 0);
        desk.reset();
        desk.expectedIs("none", 1, 0b11);
        desk.finish();
        desk.expectedIs("finished", 1, 0);
    }

    private static void skipped() {
        Desk desk = Desk.made("-s=[\\_\\n\\t]+;-c=#.*;a=a;S:a S|;");
        desk.feed(" \t\n# a a\na#\n a");
        Desk.due("accepted", desk.finish(), 0);
        desk.foundIs("without those that are skipped", 2, 9, 10, 2, 13, 14);
        Desk only = Desk.made("-s=s;S:;");
        only.feed("sss");
        Desk.due("accepted", only.finish(), 0);
        only.streamIs("none went", 3, 0, -1, 1, 0, 1, 0);
    }

    /** Of each set the bytes that it takes, 0 .. 255. */
    private static void takes(String atom, String bytes) {
        Desk desk = Desk.made("a=" + atom + ";S:a S|;");
        for (int b = 0; b < 256; b++) {
            if (b == 128) {
                // One desk has no calls enough for all.
                desk = Desk.made("a=" + atom + ";S:a S|;");
            }
            desk.reset();
            desk.feed(b, 1);
            Desk.due(atom + " takes " + b, desk.finish() == 0, bytes.indexOf(b) >= 0);
        }
    }

    private static String range(int low, int high) {
        StringBuilder text = new StringBuilder();
        for (int b = low; b <= high; b++) {
            text.append((char) b);
        }
        return text.toString();
    }

    private static void allBytes() {
        takes(".", range(32, 126));
        takes("x", "x");
        takes("^", "^");
        takes("\\n", "\n");
        takes("\\t", "\t");
        takes("\\_", " ");
        takes("\\.", ".");
        takes("\\a", "a");
        takes("\\!", "!");
        takes("\\~", "~");
        takes("!", "!");
        takes("~", "~");
        takes("[\\~!]", "!~");
        takes("[~]", "~");
        takes("\\-", "-");
        takes("[a-c x]", "abcx");
        takes("[^a-c x]", range(32, 96) + range(100, 119) + range(121, 126));
        takes("[^\\n]", range(32, 126));
        takes("[^\\_]", range(33, 126));
        takes("[\\t-\\_]", range(9, 32));
        takes("[\\t-~]", range(9, 126));
        takes("[ ^ ^ ]", range(32, 93) + range(95, 126));
        takes("[a^]", "a^");
        takes("[\\^\\]\\\\\\-]", "^]\\-");
        takes("[!-\\-]", range(33, 45));
        takes("[^\\_-~]", "");
    }
}
