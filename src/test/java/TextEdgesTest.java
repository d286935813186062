/**
 * The edges of texts that the document names, each sentence with a test of its own: at the edge, below and above it.
 * What build() then leaves is looked at by BuildEdgesTest.
 */
public final class TextEdgesTest {
    private static final int[] BLANKS = {9, 10, 13, 32};
    private static final String NO_SIGNS = "()[]|*+?.;\\";

    public static void main(String[] args) {
        anyByteIsABlankOrNot();
        blanksInEachGap();
        blanksNotWithinNames();
        blanksNotBehindABackslash();
        bytesOfNames();
        bytesOfBigNames();
        namesOfTwelveBytes();
        namesThatDifferAtTheEnd();
        rowsOfEightNames();
        rowsWithoutBlanks();
        bytesThatBeginAnExp();
        bytesBehindAnAtom();
        oneSignBehindAnAtom();
        partsOfOneOrMore();
        bytesThatBeginAnItem();
        bytesBehindAnItem();
        bytesOfItems();
        bytesBehindABackslash();
        twentyBrackets();
        whenMoreMustCome();
        Desk.end();
    }

    private static void faulty(String text, int number, int place) {
        Desk.faulty(text, number, place);
    }

    private static void good(String text) {
        Desk.made(text);
    }

    /** Good, or fault 1 at a place. */
    private static void goodOr(boolean isGood, String text, int place) {
        if (isGood) {
            good(text);
        } else {
            faulty(text, 1, place);
        }
    }

    private static boolean isBlank(int b) {
        return b == 9 || b == 10 || b == 13 || b == 32;
    }

    private static boolean isSmall(int b) {
        return b >= 'a' && b <= 'z';
    }

    private static boolean isBig(int b) {
        return b >= 'A' && b <= 'Z';
    }

    private static boolean isDigit(int b) {
        return b >= '0' && b <= '9';
    }

    private static boolean isSeen(int b) {
        return b >= 33 && b <= 126;
    }

    /** BLANKS are the bytes 9, 10, 13, 32. */
    private static void anyByteIsABlankOrNot() {
        for (int b = 0; b < 256; b++) {
            // A BIG one is part of the symbol's name; behind a small one, or a -, S is what does not go on.
            goodOr(isBlank(b) || isBig(b), (char) b + "S:;", isSmall(b) || b == '-' ? 1 : 0);
            goodOr(isBlank(b) || isBig(b), "S:;" + (char) b + "T:;", isSmall(b) || b == '-' ? 4 : 3);
        }
    }

    /** Blanks may stand wherever something ends or begins. */
    private static void blanksInEachGap() {
        String[] pieces = {"", "-", "w", "=", "\\_", ";", "n", "=", "[", "^", "^", "a", "-", "c", "\\t", "-", "\\n",
            "]", "+", "|", "(", "b", "?", "(", ".", ")", "*", "|", "c", ")", "y", ";", "S", ":", "n", "T", "|", ";",
            "T", ":", "n", "|", ";", ""};
        Desk tight = Desk.made(String.join("", pieces));
        for (int blank : BLANKS) {
            Desk.due("blanks everywhere", Desk.made(String.join((char) blank + "", pieces)).many(4), tight.many(4));
            for (int gap = 1; gap < pieces.length; gap++) {
                StringBuilder text = new StringBuilder();
                for (int k = 0; k < pieces.length; k++) {
                    text.append(k == gap ? (char) blank + "" : "").append(pieces[k]);
                }
                Desk loose = Desk.made(text.toString());
                Desk.due("places of " + text, loose.many(3), 6);
                Desk.due("states of " + text, loose.many(4), tight.many(4));
                Desk.due("rules of " + text, loose.many(2), 4);
            }
        }
        Desk.due("many blanks", Desk.made(Desk.times(" \t\r\n", 100) + "S:;" + Desk.times(" \t\r\n", 100)).many(1), 1);
    }

    /** .. but not within names. */
    private static void blanksNotWithinNames() {
        for (int blank : BLANKS) {
            faulty("a" + (char) blank + "b=c;S:;", 1, 2);
            faulty("S" + (char) blank + "T:;", 1, 2);
            Desk.due("two names", Desk.made("a=a;b=b;ab=c;S:a" + (char) blank + "b;").rule(0, 1), 2);
            Desk.due("two BIGs", Desk.made("S:A" + (char) blank + "B;A:;B:;AB:;").rule(0, 1), 2);
        }
        Desk.due("one name", Desk.made("a=a;b=b;ab=c;S:ab;").rule(0, 1), 1);
        Desk.due("one BIG", Desk.made("S:AB;A:;B:;AB:;").rule(0, 1), 1);
    }

    /** .. nor behind a \ . */
    private static void blanksNotBehindABackslash() {
        for (int blank : BLANKS) {
            faulty("a=\\" + (char) blank + "n;S:a;", 1, 3);
            faulty("a=x \\" + (char) blank + ";S:a;", 1, 5);
            faulty("a=[\\" + (char) blank + "n];S:a;", 1, 4);
            faulty("a=[x-\\" + (char) blank + "y];S:a;", 1, 6);
            good("a=" + (char) blank + "\\n" + (char) blank + ";S:a;");
        }
    }

    /** A NAME is a byte a .. z, then a .. z and 0 .. 9. */
    private static void bytesOfNames() {
        for (int b = 0; b < 256; b++) {
            boolean further = isBlank(b) || isBig(b) || b == '-';
            goodOr(isSmall(b), (char) b + "=b;S:;", further ? 1 : 0);
            // a==b; is good, too: = is a SIGN.
            goodOr(isSmall(b) || isDigit(b) || isBlank(b) || b == '=', "a" + (char) b + "=b;S:;", 1);
            goodOr(isSmall(b) || isDigit(b) || isBlank(b) || b == '=', "xa" + (char) b + "=b;S:;", 2);
        }
    }

    /** A BIG name is A .. Z, then A .. Z, a .. z and 0 .. 9. */
    private static void bytesOfBigNames() {
        for (int b = 0; b < 256; b++) {
            boolean further = isBlank(b) || isSmall(b) || b == '-';
            goodOr(isBig(b), (char) b + ":;", further ? 1 : 0);
            boolean within = isBig(b) || isSmall(b) || isDigit(b) || isBlank(b);
            goodOr(within, "S" + (char) b + ":;", b == ':' ? 2 : 1);
            goodOr(within, "Sa" + (char) b + ":;", b == ':' ? 3 : 2);
        }
    }

    /** Of both as many as there are, 12 at most; a 13th byte of a name is fault 1. */
    private static void namesOfTwelveBytes() {
        String[] last = {"l", "0", "a", "z", "9"};
        String small = "abcdefghijk";
        String big = "AbCdeFgHijK";
        for (String end : last) {
            for (String name : new String[] {small.substring(0, 10) + end, small + end}) {
                good(name + "=b;S:" + name + ";");
                good("Q" + name.substring(1) + ":;S:Q" + name.substring(1) + ";");
            }
            faulty(small + "l" + end + "=b;S:;", 1, 12);
            faulty(big + "L" + end + ":;", 1, 12);
            faulty("a=b;S:" + small + "l" + end + ";", 1, 18);
            faulty("a=b;S:" + big + "L" + end + ";", 1, 18);
        }
        faulty(big + "LM:;", 1, 12);
        faulty("a=b;S:a " + big + "LZ;", 1, 20);
        // A BIG byte is none of a NAME: there another name begins.
        Desk desk = Desk.made(small + "l=b;S:" + small + "lM;M:;");
        Desk.due("a NAME of 12 and a BIG", desk.rule(0, 1), 2);
        // Nor does a name go on behind the text's end or a blank.
        faulty(small + "l", 1, 12);
        faulty(small + "l m=b;", 1, 13);
    }

    private static void namesThatDifferAtTheEnd() {
        Desk desk = Desk.made("abcdefghijka=a;abcdefghijkb=b;abcdefghijk=c;"
                + "S:abcdefghijkb Abcdefghijkb abcdefghijk;Abcdefghijka:;Abcdefghijkb:;");
        Desk.due("tokens", desk.many(0), 3);
        Desk.due("symbols", desk.many(1), 3);
        Desk.due("the second token", desk.rule(0, 2), 1);
        Desk.due("the third symbol", desk.rule(0, 3), -1002);
        Desk.due("the third token", desk.rule(0, 4), 2);
        faulty("abcdefghijka=a;S:abcdefghijkb;", 3, 17);
        faulty("abcdefghijka=a;S:abcdefghijk;", 3, 17);
        faulty("ab=a;S:abc;", 3, 7);
    }

    /** A ROW is NAMEs and BIGs, none or up to 8; a 9th name of a row is fault 1. */
    private static void rowsOfEightNames() {
        for (int n = 0; n <= 8; n++) {
            Desk small = Desk.made("a=b;S:" + Desk.times(" a", n) + ";");
            Desk.due("names of a row", small.rule(0, 1), n);
            Desk big = Desk.made("S:" + Desk.times("T ", n) + ";T:;");
            Desk.due("BIGs of a row", big.rule(0, 1), n);
            Desk.due("the last one", big.rule(0, 1 + n), n == 0 ? 0 : -1001);
            Desk.due("none behind", big.rule(0, 2 + n), -1);
        }
        faulty("a=b;S:" + Desk.times("a ", 9) + ";", 1, 22);
        faulty("a=b;S:" + Desk.times("a ", 8) + "T;", 1, 22);
        faulty("S:" + Desk.times("T ", 9), 1, 18);
        faulty("S:" + Desk.times("T ", 8), 1, 18);
        faulty("a=b;S:a|a|" + Desk.times("a\n", 8) + "\n \tabc;", 1, 29);
        // Each row by itself.
        good("a=a;b=b;S:" + Desk.times("a ", 8) + "|" + Desk.times("b ", 8) + "|;");
    }

    private static void rowsWithoutBlanks() {
        Desk desk = Desk.made("a=b;S:aT aT aT aT;T:;");
        Desk.due("eight", desk.rule(0, 1), 8);
        faulty("a=b;S:aT aT aT aTa a;T:;Ta:;", 1, 19);
        Desk two = Desk.made("a=b;S:aT;T:;");
        Desk.due("a and T", two.rule(0, 1), 2);
        // A BIG goes on over small bytes.
        faulty("a=b;S:Ta;T:;", 3, 6);
    }

    /** A SIGN is a byte 33 .. 126 that is none of ( ) [ ] | * + ? . ; \ . */
    private static void bytesThatBeginAnExp() {
        for (int b = 0; b < 256; b++) {
            String text = "a=" + (char) b + "x;S:a;";
            boolean sign = isSeen(b) && NO_SIGNS.indexOf(b) < 0;
            // A set goes on to the end, brackets up to the ; that is none.
            int place = b == '[' ? text.length() : b == '(' ? 4 : 2;
            goodOr(sign || isBlank(b) || b == '.' || b == '\\', text, place);
            if (sign) {
                Desk desk = Desk.made("a=" + (char) b + ";S:a;");
                Desk.due("feed", desk.feed(b, 1), 0);
                Desk.due((char) b + " is of itself", desk.finish(), 0);
            }
        }
    }

    private static void bytesBehindAnAtom() {
        for (int b = 0; b < 256; b++) {
            String text = "a=x" + (char) b + ";S:a;";
            if (b == '*' || b == '?') {
                faulty(text, 6, 2);
            } else if (b == '\\') {
                // The ; is a SIGN then, and the text has no symbol.
                faulty("a=x\\;S:a;", 8, 9);
            } else {
                boolean sign = isSeen(b) && NO_SIGNS.indexOf(b) < 0;
                int place = b == '[' ? text.length() : b == '(' || b == '|' || b == ';' ? 4 : 3;
                goodOr(sign || isBlank(b) || b == '.' || b == '+', text, place);
            }
        }
    }

    /** ONE is an ATOM, perhaps with * + or ? behind: one of these. */
    private static void oneSignBehindAnAtom() {
        for (char one : "*+?".toCharArray()) {
            for (char other : "*+?".toCharArray()) {
                faulty("a=xy" + one + other + ";S:a;", 1, 5);
                faulty("a=y(x)" + one + " " + other + ";S:a;", 1, 8);
                good("a=y(x" + one + ")" + other + ";S:a;");
            }
            faulty("a=" + one + ";S:a;", 1, 2);
            faulty("a=x(" + one + ");S:a;", 1, 4);
            faulty("a=x|" + one + ";S:a;", 1, 4);
            good("a=y." + one + ";S:a;");
            good("a=y[x]" + one + ";S:a;");
            good("a=y\\x" + one + ";S:a;");
        }
    }

    /** EXP is PART and as many | PART as there are; a PART is one ONE or more. */
    private static void partsOfOneOrMore() {
        faulty("a=;S:a;", 1, 2);
        faulty("a= ;S:a;", 1, 3);
        faulty("a=|x;S:a;", 1, 2);
        faulty("a=x|;S:a;", 1, 4);
        faulty("a=x||y;S:a;", 1, 4);
        faulty("a=x| |y;S:a;", 1, 5);
        faulty("a=();S:a;", 1, 3);
        faulty("a=( );S:a;", 1, 4);
        faulty("a=(|x);S:a;", 1, 3);
        faulty("a=(x|);S:a;", 1, 5);
        faulty("a=x);S:a;", 1, 3);
        faulty("a=(x));S:a;", 1, 5);
        good("a=x|y;S:a;");
        Desk.due("many parts", Desk.made("a=" + Desk.times("xx|", 99) + "x;S:a;").many(3), 199);
    }

    /** ITEMs, one at least; a CH is none of ] - \ (nor ^ as what follows [ at once, blanks aside). */
    private static void bytesThatBeginAnItem() {
        for (int b = 0; b < 256; b++) {
            String text = "a=[" + (char) b + "];S:a;";
            // Behind [\ and ] there is no end of the set; [^] and [ ] have no item.
            int place = b == '\\' ? text.length() : isBlank(b) || b == '^' ? 4 : 3;
            goodOr(isSeen(b) && "]-\\^".indexOf(b) < 0, text, place);
            String turned = "a=[^" + (char) b + "];S:a;";
            int turnedPlace = b == '\\' ? turned.length() : isBlank(b) ? 5 : 4;
            goodOr(isSeen(b) && "]-\\".indexOf(b) < 0, turned, turnedPlace);
        }
        faulty("a=[ ^];S:a;", 1, 5);
        faulty("a=[\n^\n];S:a;", 1, 6);
    }

    private static void bytesBehindAnItem() {
        for (int b = 0; b < 256; b++) {
            String text = "a=[x" + (char) b + "];S:a;";
            int place = b == '\\' ? text.length() : b == '-' || b == ']' ? 5 : 4;
            goodOr(isBlank(b) || isSeen(b) && "]-\\".indexOf(b) < 0, text, place);
            // As the second CH of an item: above 32, or it is fault 5 at the first one.
            String range = "a=[\\t-" + (char) b + "];S:a;";
            int rangePlace = b == '\\' ? range.length() : isBlank(b) ? 7 : 6;
            goodOr(isSeen(b) && "]-\\".indexOf(b) < 0, range, rangePlace);
        }
        faulty("a=[x-y-z];S:a;", 1, 6);
        good("a=[x-y\\-z];S:a;");
    }

    /** Each byte of an item is of the set: a CH by itself is the byte that stands there. */
    private static void bytesOfItems() {
        for (int b = 33; b <= 126; b++) {
            if ("]-\\^".indexOf(b) < 0) {
                takesOnly("a=[" + (char) b + "];S:a;", b);
            }
        }
        takesOnly("a=[^\\_-~];S:a;", -1);
    }

    /** Of 8 .. 128, the bytes for which the text's token is found: one, or none (-1). */
    private static void takesOnly(String text, int byteOfIt) {
        Desk desk = Desk.made(text);
        for (int b = 8; b <= 128; b++) {
            desk.feed(b, 1);
            Desk.due(b + " in " + text, desk.finish() == 0, b == byteOfIt);
            desk.reset();
        }
    }

    /** \ and a byte 33 .. 126 behind it: that byte, but \n is 10, \t 9, \_ 32. */
    private static void bytesBehindABackslash() {
        for (int b = 0; b < 256; b++) {
            goodOr(isSeen(b), "a=\\" + (char) b + ";S:a;", 3);
            goodOr(isSeen(b), "a=[\\" + (char) b + "];S:a;", 4);
            goodOr(isSeen(b), "a=[^\\" + (char) b + "];S:a;", 5);
            goodOr(isSeen(b), "a=[\\t-\\" + (char) b + "];S:a;", 7);
        }
        for (int b = 33; b <= 126; b++) {
            int meant = b == 'n' ? 10 : b == 't' ? 9 : b == '_' ? 32 : b;
            takesOnly("a=\\" + (char) b + ";S:a;", meant);
            takesOnly("a=[\\" + (char) b + "];S:a;", meant);
        }
        takesOnly("a=n;S:a;", 'n');
        takesOnly("a=t;S:a;", 't');
        takesOnly("a=_;S:a;", '_');
    }

    private static String nested(int depth, String inside) {
        return Desk.times("(", depth) + inside + Desk.times(")", depth);
    }

    /** A ( with 20 around it is fault 1. */
    private static void twentyBrackets() {
        good("a=" + nested(19, "x") + ";S:a;");
        good("a=" + nested(20, "x") + ";S:a;");
        faulty("a=" + nested(21, "x") + ";S:a;", 1, 22);
        faulty("a=" + nested(25, "x") + ";S:a;", 1, 22);
        faulty("a=" + Desk.times("(", 20), 1, 22);
        faulty("a=" + Desk.times("(", 21), 1, 22);
        // Those that are closed are not around.
        good("a=" + Desk.times("(x)", 30) + nested(20, "x") + ";S:a;");
        good("a=" + nested(19, "(x)(y)(z)") + "(u);S:a;");
        faulty("a=" + nested(19, "(x)(y(z))") + ";S:a;", 1, 2 + 19 + 3 + 2);
        good("a=" + nested(20, "x") + ";b=" + nested(20, "y") + ";S:a;");
        // Other atoms may stand there, and a ( that is none.
        good("a=" + nested(20, "[(]\\(.") + ";S:a;");
        Desk desk = Desk.made("a=" + nested(20, "x") + "y;S:a;");
        desk.feed("xy");
        Desk.due("brackets mean what is in them", desk.finish(), 0);
    }

    /** How many there are, when more must come: each begin of a text that is none itself. */
    private static void whenMoreMustCome() {
        String text = "-w=[\\_-z^]+;n=(a|.b)*\\n;S:n T|;T:;";
        for (int length = 1; length < text.length(); length++) {
            String begin = text.substring(0, length);
            if (length == 12) {
                // A whole statement: no symbol is told.
                faulty(begin, 8, 12);
            } else if (length == 24) {
                faulty(begin, 8, 24);
            } else if (length == 31) {
                // All is whole, but T is told nowhere.
                faulty(begin, 3, 28);
            } else {
                faulty(begin, 1, length);
                faulty(begin + (begin.endsWith("\\") ? "" : " "), 1, begin.endsWith("\\") ? length : length + 1);
            }
        }
        good(text);
    }
}
