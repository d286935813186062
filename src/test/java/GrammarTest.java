import java.math.BigInteger;

/** Promises 6 to 13: what is known of a scanner and a parser that were made. */
public final class GrammarTest {
    private static final int[] WRONG = {Integer.MIN_VALUE, -1000, -1, 60, Integer.MAX_VALUE};
    private static final String SUMS = "num=[0-9]+;plus=\\+;star=\\*;lp=\\(;rp=\\);-sp=\\_;"
            + "E:T R;R:plus T R|;T:F S;S:star F S|;F:num|lp E rp;";

    public static void main(String[] args) {
        first();
        follow();
        empty();
        cell();
        many();
        manyStates();
        rule();
        token();
        tokenShortest();
        count();
        countLowestBits();
        countOfAnotherText();
        Desk.end();
    }

    /** Bit t for each token t, THE END too. */
    private static int set(Desk x, boolean follow, int symbol) {
        int set = 0;
        for (int token = 0; token < 31; token++) {
            if (follow ? x.follow(symbol, token) : x.first(symbol, token)) {
                set |= 1 << token;
            }
        }
        return set;
    }

    private static void first() {
        Desk x = Desk.made(SUMS);
        int[] sets = {0b1001, 0b10, 0b1001, 0b100, 0b1001, 0, 0};
        for (int symbol = 0; symbol < sets.length; symbol++) {
            Desk.due("first of " + symbol, set(x, false, symbol), sets[symbol]);
        }
        for (int wrong : WRONG) {
            Desk.due("first of no symbol " + wrong, x.first(wrong, 0), false);
            Desk.due("first without a token " + wrong, x.first(0, wrong), false);
        }
        // Through symbols that are empty, up to one that is not.
        Desk y = Desk.made("a=a;b=b;c=c;d=d;S:T U V d;T:a|;U:b|;V:c;");
        Desk.due("through empty ones", set(y, false, 0), 0b111);
        Desk z = Desk.made("a=a;S:T;T:U;U:V;V:a|;");
        Desk.due("THE END is in no FIRST", set(z, false, 0), 0b1);
    }

    private static void follow() {
        Desk x = Desk.made(SUMS);
        int[] sets = {0b1010000, 0b1010000, 0b1010010, 0b1010010, 0b1010110, 0, 0};
        for (int symbol = 0; symbol < sets.length; symbol++) {
            Desk.due("follow of " + symbol, set(x, true, symbol), sets[symbol]);
        }
        for (int wrong : WRONG) {
            Desk.due("follow of no symbol " + wrong, x.follow(wrong, 6), false);
            Desk.due("follow without a token " + wrong, x.follow(0, wrong), false);
        }
        // T does not come from THE START: what it puts behind others counts for nothing.
        Desk y = Desk.made("a=a;b=b;S:U;T:S b;U:;");
        Desk.due("follow of S", set(y, true, 0), 0b100);
        Desk.due("follow of T", set(y, true, 1), 0);
        Desk.due("follow of U", set(y, true, 2), 0b100);
        Desk z = Desk.made("a=a;b=b;S:T U V;T:a|;U:b|;V:;");
        Desk.due("over empty ones", set(z, true, 1), 0b110);
        Desk.due("and behind", set(z, true, 2), 0b100);
        Desk.due("START within", set(Desk.made("a=a;b=b;S:a S b|;"), true, 0), 0b110);
    }

    private static void empty() {
        Desk x = Desk.made("a=a;b=b;S:T U;T:|a;U:|b;V:a V|b S;");
        boolean[] empty = {true, true, true, false, false};
        for (int symbol = 0; symbol < empty.length; symbol++) {
            Desk.due("empty " + symbol, x.empty(symbol), empty[symbol]);
        }
        for (int wrong : WRONG) {
            Desk.due("empty " + wrong, x.empty(wrong), false);
        }
        Desk y = Desk.made("S:T;T:U U;U:V;V:;");
        for (int symbol = 0; symbol < 4; symbol++) {
            Desk.due("empty in a chain " + symbol, y.empty(symbol), true);
        }
    }

    private static void cell() {
        Desk x = Desk.made(SUMS);
        int[][] cells = {
            {0, -1, -1, 0, -1, -1, -1},
            {-1, 1, -1, -1, 2, -1, 2},
            {3, -1, -1, 3, -1, -1, -1},
            {-1, 5, 4, -1, 5, -1, 5},
            {6, -1, -1, 7, -1, -1, -1}};
        for (int symbol = 0; symbol < cells.length; symbol++) {
            for (int token = 0; token < cells[symbol].length; token++) {
                Desk.due("cell " + symbol + " " + token, x.cell(symbol, token), cells[symbol][token]);
            }
            Desk.due("behind THE END", x.cell(symbol, 7), -1);
        }
        Desk.due("no such symbol", x.cell(5, 0), -1);
        for (int wrong : WRONG) {
            Desk.due("cell of no symbol " + wrong, x.cell(wrong, 0), -1);
            Desk.due("cell without a token " + wrong, x.cell(0, wrong), -1);
        }
        Desk y = Desk.made("a=a;b=b;S:T b;T:U;U:a|;");
        Desk.due("a row that is empty as a whole", y.cell(1, 1), 1);
        Desk.due("and begins with a", y.cell(1, 0), 1);
        Desk.due("not before THE END", y.cell(1, 2), -1);
        Desk z = Desk.made("a=a;S:;T:a|;");
        Desk.due("nothing follows T", z.cell(1, 1), -1);
        Desk.due("but it begins with a", z.cell(1, 0), 1);
    }

    private static void many(Desk desk, int... numbers) {
        for (int what = 0; what < numbers.length; what++) {
            Desk.due("many " + what, desk.many(what), numbers[what]);
        }
    }

    private static void many() {
        Desk desk = Desk.made(SUMS);
        many(desk, 6, 5, 8, 6, 7, 7, 0);
        desk.type("abc");
        many(desk, 6, 5, 8, 6, 7, 7, 3);
        for (int wrong : new int[] {Integer.MIN_VALUE, -1, 7, Integer.MAX_VALUE}) {
            Desk.due("many " + wrong, desk.many(wrong), -1);
        }
        many(Desk.made("S:;"), 0, 1, 1, 0, 1, 0, 0);
    }

    private static void manyStates() {
        // No byte is of [^\_-~], so x leads nowhere.
        many(Desk.made("a=x[^\\_-~];b=y;S:b;"), 2, 1, 1, 3, 3, 2, 0);
        many(Desk.made("a=xyz[^\\_-~];S:;"), 1, 1, 1, 4, 4, 0, 0);
        many(Desk.made("a=x;b=x;S:a;"), 2, 1, 1, 2, 2, 2, 0);
        // {[xy]}, {[xy], x} and {z}: each set of places is one state.
        many(Desk.made("a=[xy]+;b=xz;S:a;"), 2, 1, 1, 3, 4, 4, 0);
        many(Desk.made("a=(x|y)*z;S:a;"), 1, 1, 1, 3, 4, 4, 0);
        many(Desk.made("a=((x?y)+|z)u?;S:a;"), 1, 1, 1, 4, 5, 5, 0);
        many(Desk.made("a=.;b=\\n;c=\\t;S:a;"), 3, 1, 1, 3, 4, 4, 0);
        many(Desk.made("a=(xx)+y?(xx)*;S:a;"), 1, 1, 1, 5, 8, 8, 0);
    }

    private static void rule() {
        Desk x = Desk.made("a=a;b=b;S:a T a;T:U|;U:b S b S b S b S;");
        int[][] rules = {
            {0, 3, 0, -1001, 0, -1},
            {1, 1, -1002, -1, -1, -1},
            {1, 0, -1, -1, -1, -1},
            {2, 8, 1, -1000, 1, -1000, 1, -1000, 1, -1000, -1},
            {-1, -1, -1, -1, -1, -1}};
        for (int rule = 0; rule < rules.length; rule++) {
            for (int what = 0; what < rules[rule].length; what++) {
                Desk.due("rule " + rule + " " + what, x.rule(rule, what), rules[rule][what]);
            }
        }
        for (int wrong : WRONG) {
            Desk.due("rule " + wrong, x.rule(wrong, 0), -1);
            Desk.due("rule 0 " + wrong, x.rule(0, wrong), -1);
        }
        // Rules are in the order of the text, symbols in that of their first statements.
        Desk y = Desk.made("T:b T;S:b S;T:a S|;S:|a;a=a;b=b;");
        int[] symbols = {0, 1, 0, 0, 1, 1};
        for (int rule = 0; rule < symbols.length; rule++) {
            Desk.due("symbol of rule " + rule, y.rule(rule, 0), symbols[rule]);
        }
        Desk.due("b is the second token", y.rule(0, 2), 1);
    }

    private static void token() {
        Desk x = Desk.made("a=x;-b=y;c=zz;S:a;");
        Desk.due("a", x.token(0, 0), 0);
        Desk.due("b", x.token(1, 0), 1);
        Desk.due("c", x.token(2, 0), 0);
        Desk.due("THE END is none", x.token(3, 0), -1);
        for (int wrong : WRONG) {
            Desk.due("token " + wrong, x.token(wrong, 0), -1);
            Desk.due("token 0 " + wrong, x.token(0, wrong), -1);
        }
        Desk.due("token 0 2", x.token(0, 2), -1);
    }

    private static void shortest(String text, int... lengths) {
        Desk x = Desk.made(text);
        for (int token = 0; token < lengths.length; token++) {
            Desk.due("shortest row of " + token + " in " + text, x.token(token, 1), lengths[token]);
        }
    }

    private static void tokenShortest() {
        shortest("a=x;-b=yy;c=z+u?z;S:a;", 1, 2, 2);
        shortest("a=x;b=x;S:a;", 1, 0);
        shortest("a=x;b=x+;S:a;", 1, 2);
        shortest("b=x+;a=x;S:a;", 1, 0);
        shortest("a=[ab];b=[a-c][a-c]?;S:a;", 1, 1);
        shortest("a=[a-c];b=[ab]|aa|bbbb;S:a;", 1, 2);
        shortest("a=[^\\_-~];b=.;S:a;", 0, 1);
        shortest("a=(xyz)+;b=xyz|xyzxyzx;S:a;", 3, 7);
    }

    private static void count() {
        Desk x = Desk.made("l=\\(;r=\\);S:l S r S|;");
        BigInteger catalan = BigInteger.ONE;
        for (int n = 0; n <= 40; n += 2) {
            Desk.due("count " + n, x.count(n), catalan.longValue());
            Desk.due("count " + (n + 1), x.count(n + 1), n == 40 ? -1 : 0);
            int k = n / 2;
            catalan = catalan.multiply(BigInteger.valueOf(4L * k + 2)).divide(BigInteger.valueOf(k + 2));
        }
        for (int wrong : new int[] {Integer.MIN_VALUE, -1, 41, Integer.MAX_VALUE}) {
            Desk.due("count " + wrong, x.count(wrong), -1);
        }
        Desk y = Desk.made("S:T T;T:U;U:;");
        Desk.due("the row of no tokens", y.count(0), 1);
        Desk.due("no other one", y.count(1) + y.count(40), 0);
        // a, b or nothing; then c; then anything of these again.
        Desk z = Desk.made("a=a;b=b;c=c;S:T c U;T:a|b|;U:S|;");
        long[] rows = {0, 1, 3, 5, 11, 21};
        for (int n = 0; n < rows.length; n++) {
            Desk.due("count " + n, z.count(n), rows[n]);
        }
        // Symbols told behind those that need them, and one that goes round without coming from THE START.
        Desk w = Desk.made("a=a;b=b;S:T U;T:V;U:b U|;V:a V|;X:X|;");
        Desk.due("count 7", w.count(7), 8);
    }

    private static void countLowestBits() {
        Desk x = Desk.made("a=a;b=b;c=c;S:T S|;T:a|b|c;");
        for (int n = 40; n >= 0; n--) {
            Desk.due("3 to the power of " + n, x.count(n), BigInteger.valueOf(3).pow(n).longValue());
        }
    }

    private static void countOfAnotherText() {
        Desk desk = Desk.made("a=a;S:a S|;");
        Desk.due("count", desk.count(5), 1);
        desk.build("a=a;b=b;S:T T;T:a|b;");
        Desk.due("count 2", desk.count(2), 4);
        Desk.due("count 5", desk.count(5), 0);
        desk.build("S:|;");
        Desk.due("what there was stays", desk.count(2), 4);
    }
}
