/** Promises 1 to 5: a new object, the tape, build(), and its faults and conflicts. */
public final class TextTest {
    private static final int[] WRONG = {Integer.MIN_VALUE, -1, 2, 7, Integer.MAX_VALUE};

    public static void main(String[] args) {
        newObject();
        type();
        typeIsFull();
        build();
        buildLeavesWhatThereWas();
        buildIsFull();
        fault();
        fault1();
        fault2();
        fault3And4();
        fault5And6();
        fault7();
        fault7OfRules();
        fault8And9();
        blanks();
        conflict();
        Desk.end();
    }

    private static void newObject() {
        Desk x = new Desk();
        for (int what = 0; what <= 6; what++) {
            Desk.due("new many " + what, x.many(what), 0);
            Desk.due("new stream " + what, x.stream(what), what == 2 ? -1 : 0);
        }
        for (int what : new int[] {-1, 7}) {
            Desk.due("new many " + what, x.many(what), -1);
            Desk.due("new stream " + what, x.stream(what), -1);
        }
        Desk.due("new fault 0", x.fault(0), 0);
        Desk.due("new fault 1", x.fault(1), 0);
        for (int k = -1; k <= 4; k++) {
            Desk.due("new conflict", x.conflict(k), -1);
            Desk.due("new first", x.first(k, k), false);
            Desk.due("new follow", x.follow(k, k), false);
            Desk.due("new empty", x.empty(k), false);
            Desk.due("new cell", x.cell(k, k), -1);
            Desk.due("new rule", x.rule(k, k), -1);
            Desk.due("new token", x.token(k, k), -1);
            Desk.due("new count", x.count(k), -1);
            Desk.due("new found", x.found(k, k), -1);
            Desk.due("new noted", x.noted(k, k), -1);
            Desk.due("new expected", x.expected(k), false);
        }
        Desk.due("new feed", x.feed(97, 1), -1);
        Desk.due("new finish", x.finish(), -1);
        Desk.due("new reset", x.reset(), -1);
    }

    private static void type() {
        Desk x = new Desk();
        for (int n : new int[] {Integer.MIN_VALUE, -1, 0, 9, Integer.MAX_VALUE}) {
            Desk.due("type n " + n, x.type(97, n), -1);
        }
        Desk.due("none came", x.many(6), 0);
        // The bytes above the lowest n are no matter.
        Desk.due("type a=", x.type(0x7777777777770000L | Desk.packed("a="), 2), 2);
        Desk.due("type b", x.type(-256L | 'b', 1), 3);
        Desk.due("type ;S:a;", x.type(Desk.packed(";S:a;"), 5), 8);
        Desk.due("typed", x.many(6), 8);
        Desk.due("build", x.build(), 0);
        Desk.due("token", x.token(0, 1), 1);
        Desk.due("typed", x.many(6), 0);
        Desk.due("a negative long", x.type(-1L, 8), 8);
        Desk.due("byte 255 begins nothing", x.build(), -10);
    }

    private static void typeIsFull() {
        Desk desk = new Desk();
        for (int k = 1; k <= 249; k++) {
            desk.type(0x2020202020202020L, 8);
        }
        Desk.due("1996", desk.type("    "), 1996);
        Desk.due("5 more", desk.type("S:;  "), -2);
        Desk.due("8 more", desk.type("S:;     "), -2);
        Desk.due("n before FULL", desk.type(0, 9), -1);
        Desk.due("none came", desk.many(6), 1996);
        Desk.due("4 more", desk.type(" S:;"), 2000);
        Desk.due("1 more", desk.type(" "), -2);
        Desk.due("build", desk.build(), 0);
        Desk.due("room again", desk.type(" "), 1);
    }

    private static void build() {
        Desk desk = new Desk();
        Desk.due("a good text", desk.build("a=b;S:a;"), 0);
        Desk.due("the tape is empty", desk.many(6), 0);
        desk.feed("b");
        Desk.due("another one", desk.build("a=b;c=d;S:a T;T:c;"), 0);
        Desk.due("in place of what there was", desk.many(0) * 10 + desk.many(1), 22);
        Desk.due("no bytes", desk.stream(0), 0);
        desk.finish();
        Desk.due("again", desk.build("S:;"), 0);
        Desk.due("not finished", desk.stream(3), 0);
        Desk.due("no error", desk.stream(1), 0);
        Desk.due("the pile", desk.stream(6), 1);
        Desk.due("no text", desk.build(""), -10);
        Desk.due("a third one", desk.build("x=y;S:x;"), 0);
        Desk.due("tokens", desk.many(0), 1);
    }

    private static void buildLeavesWhatThereWas() {
        Desk desk = Desk.made("a=b;S:a S|;");
        desk.feed("bbb");
        String[] texts = {"a=", "S:T;", "", "S:S;", "S:|;", "a=" + Desk.times("x", 400) + ";S:a;"};
        int[] answers = {-12, -12, -10, -10, -3, -2};
        for (int k = 0; k < texts.length; k++) {
            Desk.due("build of " + texts[k], desk.build(texts[k]), answers[k]);
            Desk.due("the tape is empty", desk.many(6), 0);
            Desk.due("tokens stay", desk.many(0), 1);
            Desk.due("rules stay", desk.many(2), 2);
            Desk.due("states stay", desk.many(4), 2);
            Desk.due("cells stay", desk.cell(0, 1), 1);
            Desk.due("counts stay", desk.count(3), 1);
            Desk.due("the stream stays", desk.stream(0), 3 + k);
            Desk.due("its tokens stay", desk.stream(4), 2 + k);
            Desk.due("it goes on", desk.feed("b"), 0);
        }
        Desk.due("accepted", desk.finish(), 0);
        Desk.due("tokens", desk.stream(4), 9);
    }

    /** The states of a text of a token that is so many bytes long, and places of one that is one of so many. */
    private static Desk desk(String exp, int answer) {
        Desk desk = new Desk();
        Desk.due("build of " + exp, desk.build("a=" + exp + ";S:a;"), answer);
        Desk.due("no fault", desk.fault(0), 0);
        Desk.due("no fault's place", desk.fault(1), 0);
        Desk.due("no conflict", desk.conflict(0), -1);
        Desk.due("the tape is empty", desk.many(6), 0);
        return desk;
    }

    private static void buildIsFull() {
        Desk.due("states", desk(Desk.times("x", 398), 0).many(4), 399);
        Desk.due("states", desk(Desk.times("x", 399), 0).many(4), 400);
        Desk.due("nothing is made", desk(Desk.times("x", 400), -2).many(4), 0);
        Desk.due("places", desk(Desk.times("x|", 598) + "x", 0).many(3), 599);
        Desk most = desk(Desk.times("x|", 599) + "x", 0);
        Desk.due("places", most.many(3), 600);
        Desk.due("states", most.many(4), 2);
        Desk.due("nothing is made", desk(Desk.times("x|", 600) + "x", -2).many(3), 0);
        Desk.due("brackets are no places", desk("(" + Desk.times("x|", 599) + "x)", 0).many(3), 600);
        desk("(" + Desk.times("x|", 599) + "x)y", -2);
        // Sets of the last nine letters: twice as many states for each.
        desk("[xy]*x" + Desk.times("[xy]", 8), -2);
        Desk.due("states", desk("[xy]*x" + Desk.times("[xy]", 7), 0).many(4), 257);
        String tooMany = "a=" + Desk.times("x|", 600) + "x";
        faulty(tooMany + "*;S:a;", 6, 2);
        faulty(tooMany + ";S:S;", 9, 1204);
        faulty(tooMany + ";", 8, 1204);
        Desk.due("FULL before CONFLICT", new Desk().build(tooMany + ";S:a|a;"), -2);
    }

    private static void fault() {
        Desk desk = new Desk();
        Desk.due("build", desk.build("a=b;S:a c;"), -18);
        Desk.due("which", desk.fault(0), 3);
        Desk.due("where", desk.fault(1), 8);
        for (int what : WRONG) {
            Desk.due("fault " + what, desk.fault(what), -1);
        }
        desk.type("S:;");
        Desk.due("of the latest build", desk.fault(1), 8);
        Desk.due("build", desk.build(), 0);
        Desk.due("which", desk.fault(0), 0);
        Desk.due("where", desk.fault(1), 0);
    }

    private static void faulty(String text, int number, int place) {
        Desk.faulty(text, number, place);
    }

    private static void good(String text) {
        Desk.made(text);
    }

    private static void fault1() {
        String[] texts = {"a", "ab c", "a=", "a=b", "S:", "S", "a=b;S:a", "S:a|b"};
        int[] places = {1, 3, 2, 3, 2, 1, 7, 5};
        for (int k = 0; k < texts.length; k++) {
            faulty(texts[k], 1, places[k]);
        }
        faulty("S=b;", 1, 1);
        faulty("a:b;", 1, 1);
        faulty("-", 1, 1);
        faulty("- ", 1, 2);
        faulty("-S:;", 1, 1);
        faulty("--a=b;", 1, 1);
        faulty("1=b;", 1, 0);
        faulty(";", 1, 0);
        faulty("a=b;;", 1, 4);
        faulty("S:;a=b;S:a;;", 1, 11);
        faulty("S:a,b;", 1, 3);
        faulty("S:||1;", 1, 4);
        faulty("\u0000", 1, 0);
        faulty("\u000b", 1, 0);
        fault1InExp();
        fault1InSet();
        fault1OfLimits();
        faulty("a=b;a=b*;S:c;!", 1, 13);
    }

    private static void fault1InExp() {
        faulty("a=;", 1, 2);
        faulty("a=*b;", 1, 2);
        faulty("a=+", 1, 2);
        faulty("a=?", 1, 2);
        faulty("a=b**;", 1, 4);
        faulty("a=b + ?;", 1, 6);
        faulty("a=b)", 1, 3);
        faulty("a=(b", 1, 4);
        faulty("a=(b;", 1, 4);
        faulty("a=()", 1, 3);
        faulty("a=(*)", 1, 3);
        faulty("a=(b|)", 1, 5);
        faulty("a=b||c;", 1, 4);
        faulty("a=b|;", 1, 4);
        faulty("a=|b;", 1, 2);
        faulty("a=b];", 1, 3);
        faulty("a=\\", 1, 3);
        faulty("a=\\ ;", 1, 3);
        faulty("a=\\\n;", 1, 3);
        faulty("a=\\\u007f;", 1, 3);
        faulty("a=\u007f;", 1, 2);
        faulty("a=\u00e4;", 1, 2);
        faulty("a=b\u0001;", 1, 3);
        good("a=\\\\\\(\\)\\[\\]\\|\\*\\+\\?\\.\\;^-={}:\"~!;S:a;");
    }

    private static void fault1InSet() {
        faulty("a=[", 1, 3);
        faulty("a=[];", 1, 3);
        faulty("a=[^", 1, 4);
        faulty("a=[^];", 1, 4);
        faulty("a=[-a];", 1, 3);
        faulty("a=[^-a];", 1, 4);
        faulty("a=[a", 1, 4);
        faulty("a=[a-", 1, 5);
        faulty("a=[a-];", 1, 5);
        faulty("a=[a--];", 1, 5);
        faulty("a=[a-b-c];", 1, 6);
        faulty("a=[\\", 1, 4);
        faulty("a=[\\ n];", 1, 4);
        faulty("a=[a-\\\u0080];", 1, 6);
        faulty("a=[\u007f];", 1, 3);
        good("a=[^^];S:a;");
        good("a=[ ^ ^ ];S:a;");
        good("a=[\\^];S:a;");
        good("a=[a^];S:a;");
        good("a=[[(.;*|)];S:a;");
        good("a=[\\--\\]\\\\];S:a;");
    }

    private static void fault1OfLimits() {
        faulty("abcdefghijklm=a;", 1, 12);
        faulty("Abcdefghijklm:;", 1, 12);
        faulty("a=b;S:abcdefghijkl1;", 1, 18);
        faulty("a=b;S:ABCDEFGHIJKLm;", 1, 18);
        faulty("a=b;S:abcdefghijklM;", 3, 6);
        good("abcdefghijk1=b;S:abcdefghijk1Abcdefghij01;Abcdefghij01:;");
        faulty("a=b;S:" + Desk.times("a ", 9) + ";", 1, 22);
        faulty("a=b;S:a|" + Desk.times("a", 1) + Desk.times(" a", 8) + ";", 1, 24);
        good("a=b;S:" + Desk.times("a ", 8) + ";");
        good("a=" + Desk.times("(", 20) + "b" + Desk.times(")", 20) + ";S:a;");
        good("a=" + Desk.times("(", 20) + "b" + Desk.times(")", 20) + "(c);S:a;");
        faulty("a=" + Desk.times("(", 21) + "b" + Desk.times(")", 21) + ";S:a;", 1, 22);
        faulty("a=(b)" + Desk.times("(b|", 21), 1, 65);
    }

    private static void fault2() {
        faulty("a=b;a=c;S:a;", 2, 4);
        faulty("a=b; - a=c;S:a;", 2, 7);
        faulty("S:a;a=b;ab=c;a=d;a=e;", 2, 13);
        good("a=b;ab=c;b=d;S:a;");
        good("a=b;A:;A:a a;");
    }

    private static void fault3And4() {
        faulty("S:a;", 3, 2);
        faulty("S:T;", 3, 2);
        faulty("a=b;S:a T| b;T:;", 3, 11);
        faulty("a=b;S:a | S aa;", 3, 12);
        good("S:a T;T:;a=b;");
        faulty("S:a;-a=b;", 4, 2);
        faulty("-a=b;S: a;", 4, 8);
        faulty("-a=b;c=d;S: c a e;", 4, 14);
        faulty("-a=b;c=d;S: c e a;", 3, 14);
    }

    private static void fault5And6() {
        faulty("a=[z-a];S:a;", 5, 3);
        faulty("a=[ab z - \\t];S:a;", 5, 6);
        faulty("a=[\\n-\\t];S:a;", 5, 3);
        faulty("a=[^c-ba];S:a;", 5, 4);
        faulty("a=[a-\\_];S:a;", 5, 3);
        good("a=[a-a];S:a;");
        good("a=[\\t-\\n];S:a;");
        faulty("a= b*;S:a;", 6, 3);
        faulty("a=b?c*;S:a;", 6, 2);
        faulty("a=(b|c?);S:a;", 6, 2);
        faulty("a=b|c?;S:a;", 6, 2);
        faulty("a=(b?)+;S:a;", 6, 2);
        faulty("a=((b)*(c)?)+;S:a;", 6, 2);
        good("a=b+;S:a;");
        good("a=b?c;S:a;");
        // The EXP of the token is meant: one in brackets may be of no bytes.
        good("a=(b?)c;S:a;");
        faulty("a=[z-a]*;S:a;", 6, 2);
        faulty("a=c[z-a]b;b=c*;S:d;", 5, 4);
        faulty("S:x;a=b*;", 3, 2);
    }

    private static String tokens(int n) {
        StringBuilder text = new StringBuilder();
        for (int k = 0; k < n; k++) {
            text.append("t").append((char) ('a' + k)).append("=").append((char) ('a' + k)).append(";");
        }
        return text.toString();
    }

    private static String symbols(int n) {
        StringBuilder text = new StringBuilder();
        for (int k = 0; k < n; k++) {
            text.append("S").append((char) ('0' + k / 10)).append((char) ('0' + k % 10)).append(":;");
        }
        return text.toString();
    }

    private static void fault7() {
        good(tokens(24) + "S:;");
        faulty(tokens(25) + "S:;", 7, 24 * 5);
        faulty(tokens(24) + "-z=z;z=z;S:;", 7, 24 * 5 + 1);
        faulty(tokens(24) + "ta=z;z=z;S:;", 2, 24 * 5);
        faulty("S:zz;" + tokens(26) + "zz=z;", 7, 5 + 24 * 5);
        good(symbols(30));
        faulty(symbols(31), 7, 30 * 5);
        faulty(symbols(31) + "a=b*;", 7, 30 * 5);
        good(symbols(30) + "a=b;S00:a;");
        faulty("S00:S30;" + symbols(31), 7, 8 + 30 * 5);
    }

    private static void fault7OfRules() {
        String fifty = "S:" + Desk.times("|", 49) + ";T:;";
        faulty("a=b;" + fifty + "T:a" + Desk.times("|", 9) + "a;", 7, 4 + 55 + 12);
        faulty("a=b;" + fifty + "T:a" + Desk.times("|", 9) + " ; ", 7, 4 + 55 + 13);
        faulty("a=b;" + fifty + "T:a" + Desk.times("|", 9) + "\n| ; ", 7, 4 + 55 + 13);
        faulty("a=b;" + fifty + "T:a" + Desk.times("|", 9) + " c;", 3, 4 + 55 + 13);
        faulty("-a=b;" + fifty + "T:" + Desk.times("|", 9) + "a;", 4, 5 + 55 + 11);
        Desk desk = new Desk();
        Desk.due("60 rules", desk.build("a=b;" + fifty + "T:a" + Desk.times("|", 8) + "a;"), -3);
    }

    private static void fault8And9() {
        faulty("", 8, 0);
        faulty(" \n", 8, 2);
        faulty("a=b;", 8, 4);
        faulty("a=b; \t\r\n", 8, 8);
        faulty("S:S;", 9, 0);
        faulty(" S : T ; T : S ;", 9, 1);
        faulty("S:;T:T;", 9, 3);
        faulty("S:;T:U;T:V;U:U;V:V;", 9, 3);
        faulty("a=b;S:a T;T:T a;", 9, 4);
        faulty("a=b;T:a;S:S|S T;", 9, 8);
        good("a=b;T:a;S:T;");
    }

    private static void blanks() {
        Desk tight = Desk.made("-w=\\_;n=[^0-9]+|(b?c)*d;S:n Tn|;T:;Tn:;");
        Desk loose = Desk.made("\t- w = \\_ ; n\r=\n[ ^ 0 - 9 ] + | ( b ? c ) * d ; S : n Tn | ; T : ; Tn : ; ");
        for (int what = 0; what <= 6; what++) {
            Desk.due("many " + what, loose.many(what), tight.many(what));
        }
        Desk.due("a NAME and a BIG need none", Desk.made("a=b;S:aT;T:;").rule(0, 1), 2);
        faulty("a b=c;", 1, 2);
        faulty("S T:;", 1, 2);
        // The ends of what names are made of.
        good("za09=b;ZAZaz09:za09 AZ za09Z;AZ:;Z:;");
        faulty("`=b;", 1, 0);
        faulty("{=b;", 1, 0);
        faulty("@:;", 1, 0);
        faulty("[:;", 1, 0);
        faulty("a/=b;", 1, 1);
        faulty("a:=b;", 1, 1);
    }

    private static void conflict(String text, int... cell) {
        Desk desk = new Desk();
        Desk.due("build of " + text, desk.build(text), -3);
        for (int what = 0; what < 4; what++) {
            Desk.due("conflict of " + text + " " + what, desk.conflict(what), cell[what]);
        }
        Desk.due("no fault", desk.fault(0) + desk.fault(1), 0);
        Desk.due("conflict(-1)", desk.conflict(-1), -1);
        Desk.due("conflict(4)", desk.conflict(4), -1);
        desk.type("S");
        Desk.due("of the latest build", desk.conflict(0), cell[0]);
        desk.type(":;");
        Desk.due("build", desk.build(), 0);
        Desk.due("it was none", desk.conflict(0), -1);
    }

    private static void conflict() {
        conflict("a=b;S:a|;S:a;", 0, 0, 0, 2);
        conflict("S:|;", 0, 0, 0, 1);
        conflict("a=b;c=d;S:S a|c;", 0, 1, 0, 1);
        conflict("a=a;b=b;S:a T b|T;T:a b|;", 0, 0, 0, 1);
        conflict("a=a;b=b;S:T b;T:a|b|;", 1, 1, 2, 3);
        conflict("a=a;b=b;S:b|T|T;T:a|;", 0, 0, 1, 2);
        conflict("a=a;S:a T|U;T:|;U:a;", 0, 0, 0, 1);
        // Cells of symbols that do not come from THE START are looked at, but nothing follows those.
        conflict("a=b;S:;T:a|a;", 1, 0, 1, 2);
        good("S:;T:|;");
        good("a=a;S:a;T:U|;U:T|;");
        // One rule that is in a cell in two ways is no conflict.
        conflict("a=a;S:T T;T:a|;", 1, 0, 1, 2);
        Desk.made("a=a;b=b;S:T b;T:a|;");
    }
}
