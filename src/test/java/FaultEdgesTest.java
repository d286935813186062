/** The edges of the faults 2 to 9, of which of them is THE FAULT, and of what is too much for the machine. */
public final class FaultEdgesTest {
    public static void main(String[] args) {
        fault1IsBeforeAll();
        byPlacesOfPairs();
        ofOnePlaceTheLeastNumber();
        fault8And9AreBehindAll();
        fault2();
        fault3();
        fault4();
        fault5();
        fault5ByEachPair();
        fault6();
        fault7OfTokens();
        fault7OfSymbols();
        fault7OfRules();
        fault7OfEmptyRows();
        fault7OfAWholeTape();
        fault8();
        fault9();
        states();
        statesOfAll();
        places();
        fullIsBehindFaultsAndBeforeConflicts();
        Desk.end();
    }

    private static void faulty(String text, int number, int place) {
        Desk.faulty(text, number, place);
    }

    private static void good(String text) {
        Desk.made(text);
    }

    /** A text with this fault at the place behind it, each with names of its own. */
    private record Sample(int fault, String text, int place) {
    }

    private static Sample[] samples() {
        return new Sample[] {
            new Sample(2, "d=x;d=y;", 4),
            new Sample(3, "U:zz;", 2),
            new Sample(4, "-k=x;V:k;", 7),
            new Sample(5, "e=[b-a];", 3),
            new Sample(6, "f= x*;", 3)};
    }

    /** 61 rules of W; the 61st of the text is some before that when there are rules before these. */
    private static String sixtyOneRules() {
        return "W:" + Desk.times("|", 60) + ";";
    }

    /** 1 .. If there is none, the others: wherever they are. */
    private static void fault1IsBeforeAll() {
        for (Sample sample : samples()) {
            faulty(sample.text + "S:;!", 1, sample.text.length() + 3);
            faulty(sample.text + "S:", 1, sample.text.length() + 2);
            faulty("!" + sample.text, 1, 0);
        }
        faulty(sixtyOneRules() + "S", 1, sixtyOneRules().length() + 1);
        faulty("S:S;;", 1, 4);
        faulty("a=x*", 1, 4);
        faulty("a=[b-a", 1, 6);
    }

    /** By the place of the first byte of what is named. */
    private static void byPlacesOfPairs() {
        for (Sample one : samples()) {
            faulty(one.text + "S:;", one.fault, one.place);
            for (Sample other : samples()) {
                if (one.fault != other.fault) {
                    faulty(one.text + other.text + "S:;", one.fault, one.place);
                    faulty("S:;" + one.text + other.text, one.fault, 3 + one.place);
                }
            }
            faulty(one.text + sixtyOneRules(), one.fault, one.place);
            faulty(sixtyOneRules() + one.text, 7, 2 + 60);
            faulty("S:;" + sixtyOneRules() + one.text, 7, 3 + 2 + 59);
        }
        // What is told later may be named sooner: a row stands before the token that is SKIPPED.
        faulty("V:k;-k=x;d=y;d=z;", 4, 2);
        faulty("d=y;V:zz;d=z;", 3, 6);
        faulty("d=y;d=z;V:zz;", 2, 4);
    }

    /** Of one place the least number. */
    private static void ofOnePlaceTheLeastNumber() {
        String sixty = "W:" + Desk.times("|", 60);
        faulty(sixty + "zz;", 3, 62);
        faulty("-k=x;" + sixty + "k;", 4, 67);
        faulty("k=x;" + sixty + "k;", 7, 66);
        faulty("k=x;" + sixty + "k zz;", 7, 66);
        faulty(sixty + "Zz;", 3, 62);
        faulty(sixty + "W;", 7, 62);
    }

    /** If there is none: 8 ..., 9 ... */
    private static void fault8And9AreBehindAll() {
        for (Sample sample : samples()) {
            faulty("S:S;" + sample.text, sample.fault, 4 + sample.place);
            if (sample.text.indexOf(':') < 0) {
                faulty(sample.text, sample.fault, sample.place);
            }
        }
        faulty("S:S;" + sixtyOneRules(), 7, 4 + 2 + 59);
    }

    /** 2 a NAME told as a token a second time. */
    private static void fault2() {
        faulty("a=x;a=y;S:a;", 2, 4);
        faulty("a=x;a=x;S:a;", 2, 4);
        faulty("a=x;-a=y;S:;", 2, 5);
        faulty("-a=x; - a=y;S:;", 2, 8);
        faulty("a=x;b=x;a=x;b=x;a=x;S:;", 2, 8);
        good("a=x;b=x;S:a|b;");
        good("a=x;aa=x;a0=x;S:a;");
        // A BIG may be told as often as one likes.
        Desk.due("symbols", Desk.made("a=x;b=y;S:a;S:b;S:;").many(1), 1);
    }

    /** 3 a NAME or BIG in a row that is told nowhere in the text. */
    private static void fault3() {
        faulty("S:a;", 3, 2);
        faulty("S:A;", 3, 2);
        faulty("a=x;S:| a |\tb;", 3, 12);
        faulty("a=x;S:a T T U;T:;", 3, 12);
        good("S:a;a=x;");
        good("S:T;T:;");
        good("S:;T:S;");
        faulty("A:;S:a;", 3, 5);
        faulty("a=x;S:A;", 3, 6);
    }

    /** 4 a SKIPPED token in a row. */
    private static void fault4() {
        faulty("-a=x;S:a;", 4, 7);
        faulty("S:a;-a=x;", 4, 2);
        faulty("b=y;-a=x;S:b b b b b b b a;", 4, 25);
        faulty("b=y;-a=x;S:b|b a|a;", 4, 15);
        good("-a=x;b=y;S:b;");
        good("-a=x;S:;");
    }

    /** 5 an ITEM whose first CH is above the second one. */
    private static void fault5() {
        good("a=[b-c];S:a;");
        good("a=[b-b];S:a;");
        faulty("a=[c-b];S:a;", 5, 3);
        good("a=[\\t-\\n];S:a;");
        good("a=[\\n-\\n];S:a;");
        faulty("a=[\\n-\\t];S:a;", 5, 3);
        good("a=[\\n-\\_];S:a;");
        faulty("a=[ \\_-\\n];S:a;", 5, 4);
        good("a=[\\_-!];S:a;");
        faulty("a=[!-\\_];S:a;", 5, 3);
        faulty("a=[^ b-c d-c];S:a;", 5, 9);
        faulty("a=[^d-c];S:a;", 5, 4);
        faulty("a=x(y|[b \\d - c])+;S:a;", 5, 9);
        // The bytes that are meant, not those that stand there.
        good("a=[\\t-!];S:a;");
        faulty("a=[!-\\t];S:a;", 5, 3);
        good("a=[\\n-m];S:a;");
        faulty("a=[m-\\n];S:a;", 5, 3);
        // A - that is an item's own byte.
        good("a=[\\--.];S:a;");
        faulty("a=[.-\\-];S:a;", 5, 3);
    }

    private static void fault5ByEachPair() {
        String some = "!09AZ[az{~";
        for (char low : some.toCharArray()) {
            for (char high : some.toCharArray()) {
                String text = "a=x[" + low + "-" + high + "];S:a;";
                if (low > high) {
                    faulty(text, 5, 4);
                } else {
                    good(text);
                }
            }
        }
    }

    /** 6 an EXP that the row of no bytes is of (its first byte). */
    private static void fault6() {
        String[] empties = {"x*", "x?", "x?y?", "x*y?z*", "x|y*", "x?|y", "x|y|z?", "(x*)", "(x|y?)", "(x?)+", "(x)*",
            "(x|y)?", "((x?)(y*))+", "[xy]*", ".?", "\\n*", "(xy)*(z)?"};
        String[] others = {"x", "x+", "x?y", "xy*", "x*yz*", "x|y", "(x|y)+", "(x)", "(xy?)+", "[xy]+", ".", "\\n+",
            "(x*y|z)(u?)+", "x?(y|z)u?"};
        for (String exp : empties) {
            faulty("a=" + exp + ";S:a;", 6, 2);
            faulty("-ab= \n " + exp + ";S:;", 6, 7);
            faulty("b=y;a=" + exp + ";S:b;c=x*;", 6, 6);
        }
        for (String exp : others) {
            good("a=" + exp + ";S:a;");
            good("-a= " + exp + ";S:;");
        }
        // A set that no byte is of takes no row at all, not even that of no bytes.
        good("a=[^\\_-~];S:a;");
        faulty("a=[^\\_-~]*;S:a;", 6, 2);
    }

    /** Names t00, t01, ..: six bytes each. */
    private static String tokens(int n) {
        StringBuilder text = new StringBuilder();
        for (int k = 0; k < n; k++) {
            text.append('t').append(k / 10).append(k % 10).append("=x;");
        }
        return text.toString();
    }

    /** Names S00, S01, .. with an empty row: five bytes each. */
    private static String symbols(int n) {
        return tokens(n).replace("=x", ":").replace('t', 'S');
    }

    /** 7 the NAME with which there is a 25th token. */
    private static void fault7OfTokens() {
        for (int n = 23; n <= 24; n++) {
            Desk.due("tokens", Desk.made(tokens(n) + "S:;").many(0), n);
            Desk.due("THE END", Desk.made(tokens(n) + "S:;").cell(0, n), 0);
        }
        faulty(tokens(25) + "S:;", 7, 144);
        faulty(tokens(40) + "S:;", 7, 144);
        faulty("S:;" + tokens(25), 7, 147);
        faulty(tokens(24) + " - z = x;S:;", 7, 147);
        // Those that are SKIPPED count.
        faulty(tokens(24).replace("t", "-t") + "z=x;S:;", 7, 168);
        Desk.due("tokens", Desk.made(tokens(23).replace("t", "-t") + "z=x;S:z;").many(0), 24);
        // The same one again is none.
        faulty(tokens(24) + "t23=x;z=x;S:;", 2, 144);
    }

    /** .. or BIG with which there is a 31st symbol (it stands before a :). */
    private static void fault7OfSymbols() {
        for (int n = 29; n <= 30; n++) {
            Desk.due("symbols", Desk.made(symbols(n)).many(1), n);
        }
        faulty(symbols(31), 7, 150);
        faulty(symbols(45), 7, 150);
        faulty("a=x;" + symbols(30) + "\n Z : a;", 7, 156);
        // It stands before a : there, whatever rows it was in before that.
        faulty("S00:S30;" + symbols(31), 7, 158);
        // The same ones again are none.
        Desk.due("symbols", Desk.made("a=x;" + symbols(30) + "S00:a;S29:a;").many(1), 30);
        faulty("a=x;" + symbols(30) + "S00:a;S29:a;S30:;", 7, 166);
    }

    /** 30 symbols with two rules each; eight bytes each. */
    private static String sixtyRules() {
        return symbols(30).replace(":", ":a|");
    }

    /** .. the first byte of the ROW that is a 61st rule. */
    private static void fault7OfRules() {
        Desk.due("rules", Desk.made("a=x;" + sixtyRules().replace("S29:a|", "S29:a")).many(2), 59);
        Desk sixty = Desk.made("a=x;" + sixtyRules());
        Desk.due("rules", sixty.many(2), 60);
        Desk.due("the last one's symbol", sixty.rule(59, 0), 29);
        Desk.due("no further one", sixty.rule(60, 0), -1);
        Desk more = Desk.made("a=x;b=y;" + sixtyRules().replace("S29:a|", "S29:a") + "S00: b S29;");
        Desk.due("of another statement", more.rule(59, 0) * 100 + more.rule(59, 1), 2);
        faulty("a=x;b=y;" + sixtyRules() + "S00: b S29;", 7, 8 + 210 + 5);
        faulty("a=x;b=y;" + sixtyRules().replace("S29:a|", "S29:a|\n|b a"), 7, 8 + 29 * 7 + 8);
    }

    /** .. (| or ; if it is empty). */
    private static void fault7OfEmptyRows() {
        faulty(sixtyOneRules(), 7, 62);
        faulty("W:" + Desk.times("|", 60) + " \n;", 7, 64);
        faulty("W:" + Desk.times("|", 61) + ";", 7, 62);
        faulty("W:" + Desk.times("|", 60) + "\t|;", 7, 63);
        faulty("W:" + Desk.times("|", 59) + ";W:;", 7, 64);
        faulty("W:" + Desk.times("|", 59) + ";W:| ;", 7, 64);
        Desk desk = new Desk();
        Desk.due("60 are no fault", desk.build("W:" + Desk.times("|", 59) + ";"), -3);
        Desk.due("the next rule", desk.conflict(3), 1);
    }

    /** Names of two bytes, with what comes behind each, up to so many bytes. */
    private static String names(char first, String behind, int room) {
        String second = "0123456789abcdefghijklmnopqrstuvwxyz";
        StringBuilder text = new StringBuilder();
        for (int k = 0; text.length() + 2 + behind.length() <= room; k++) {
            text.append((char) (first + k / 36)).append(second.charAt(k % 36)).append(behind);
        }
        return text.toString();
    }

    /** As many symbols, tokens and names in rows as a tape can tell: the last one is told, too. */
    private static void fault7OfAWholeTape() {
        StringBuilder symbols = new StringBuilder("A:Zz;");
        for (char name = 'B'; name <= 'Z'; name++) {
            symbols.append(name).append(":;");
        }
        symbols.append(names('A', ":;", 1996 - symbols.length()));
        faulty(symbols + "Zz:;", 7, 5 + 25 * 3 + 4 * 4);
        faulty(symbols + "Zy:;", 3, 2);
        String tokens = "A:zz;" + names('a', "=x;", 1990);
        faulty(tokens + "zz=x;", 7, 5 + 24 * 5);
        faulty(tokens + "zy=x;", 3, 2);
        faulty("a=x;S:" + Desk.times("a|", 990) + "b;", 7, 6 + 60 * 2);
        faulty("a=x;S:b|" + Desk.times("a|", 990) + ";", 3, 6);
    }

    /** 8 no symbol is told (at the text's end). */
    private static void fault8() {
        faulty("", 8, 0);
        faulty(" ", 8, 1);
        faulty("a=x;", 8, 4);
        faulty("a=x;\n\n", 8, 6);
        faulty("-a=x;b=y;", 8, 9);
        good("S:;");
    }

    /** 9 the first symbol (by numbers) from which no row of tokens comes (at its BIG before the first : ). */
    private static void fault9() {
        faulty("S:S;", 9, 0);
        faulty("\n S : S | S S ;", 9, 2);
        good("S:T;T:;");
        faulty("a=x;S:a S;", 9, 4);
        faulty("a=x;S:a T;T:a S;", 9, 4);
        faulty("a=x;S:;T:a T;", 9, 7);
        // By numbers: T is told first, though S is first in its row.
        faulty("a=x;T:S;S:a S;", 9, 4);
        faulty("a=x;T:a|S;S:a S;", 9, 10);
        // Before the first : of it.
        faulty("a=x;S:a;T:T;S:;T:a T;", 9, 8);
        faulty("a=x;S:a;T:T;U:U;", 9, 8);
        // One row is enough, and the row of no tokens is one.
        good("a=x;b=y;S:a U|b S S;U:T;T:;");
        good("a=x;S:a S|;");
        Desk.due("a row of tokens comes from all", new Desk().build("S:S|;"), -3);
    }

    private static void statesAre(String text, int states) {
        Desk desk = new Desk();
        Desk.due("build of " + text, desk.build(text), states > 400 ? -2 : 0);
        Desk.due("states of " + text, desk.many(4), states > 400 ? 0 : states);
        Desk.due("no fault", desk.fault(0) + desk.fault(1), 0);
        Desk.due("no conflict", desk.conflict(0), -1);
    }

    /** There may be 400 states (the first one counts). */
    private static void states() {
        for (int n = 398; n <= 400; n++) {
            statesAre("a=" + Desk.times("x", n) + ";S:a;", n + 1);
        }
        statesAre("a=x" + Desk.times("x?", 397) + ";S:a;", 399);
        statesAre("a=x" + Desk.times("x?", 398) + ";S:a;", 400);
        statesAre("a=x" + Desk.times("x?", 399) + ";S:a;", 401);
        statesAre("a=" + Desk.times("x", 401) + ";S:a;", 402);
        // From any place on, which of the latest n bytes were x: 1 + 2 to the power of n.
        statesAre("a=[xy]*x" + Desk.times("[xy]", 7) + ";S:a;", 257);
        statesAre("a=[xy]*x" + Desk.times("[xy]", 8) + ";S:a;", 513);
    }

    /** The states of all tokens together, also those from which none that FINDS can be come to. */
    private static void statesOfAll() {
        String half = "a=" + Desk.times("x", 199) + ";";
        statesAre(half + "-b=" + Desk.times("y", 199) + ";S:a;", 399);
        statesAre(half + "-b=" + Desk.times("y", 200) + ";S:a;", 400);
        statesAre(half + "-b=" + Desk.times("y", 201) + ";S:a;", 401);
        statesAre(half + "-b=" + Desk.times("y", 200) + "[^\\_-~];S:a;", 400);
        statesAre(half + "-b=" + Desk.times("y", 201) + "[^\\_-~];S:a;", 401);
        // Sets of places that are the same are one state.
        statesAre(half + half.replace("a=", "b=") + half.replace("a=", "c=") + "S:a;", 200);
    }

    private static void placesAre(String text, int places) {
        Desk desk = new Desk();
        Desk.due("build of " + text, desk.build(text), places > 600 ? -2 : 0);
        Desk.due("places of " + text, desk.many(3), places > 600 ? 0 : places);
    }

    /** 600 places: the atoms of all EXPs that are no brackets, each as it stands. */
    private static void places() {
        for (int n = 599; n <= 601; n++) {
            placesAre("a=" + Desk.times("x|", n - 1) + "x;S:a;", n);
            placesAre("a=" + Desk.times("x|", 299) + "x;-b=(" + Desk.times("y|", n - 301) + "y);S:a;", n);
            placesAre("a=((" + Desk.times("x", 99) + "(y))" + Desk.times("|x", n - 100) + ");S:a;", n);
        }
        placesAre("a=" + Desk.times("x|", 900) + "x;S:a;", 901);
        placesAre("S:;", 0);
    }

    /** FULL (behind faults); CONFLICT (behind all). */
    private static void fullIsBehindFaultsAndBeforeConflicts() {
        String places = "a=" + Desk.times("x|", 600) + "x;";
        String states = "a=" + Desk.times("x", 400) + ";";
        for (String full : new String[] {places, states}) {
            for (Sample sample : samples()) {
                faulty(full + sample.text + "S:;", sample.fault, full.length() + sample.place);
            }
            faulty(full + sixtyOneRules(), 7, full.length() + 62);
            faulty(full, 8, full.length());
            faulty(full + "S:S;", 9, full.length());
            faulty(full + "S:;;", 1, full.length() + 3);
            Desk desk = new Desk();
            Desk.due("FULL before CONFLICT", desk.build(full + "S:|;"), -2);
            Desk.due("it was none", desk.conflict(0), -1);
        }
    }
}
