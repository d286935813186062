/** Walks over a text byte by byte: where no text goes on so. */
final class TextWalk {
    private enum At { STATEMENT, DASH, NAME, BEHIND_NAME, BIG, BEHIND_BIG, ATOM_DUE, BEHIND_ATOM, BEHIND_SIGN,
        ESCAPE, SET_BEGUN, SET_TURNED, BEHIND_CH, BEHIND_DASH, BEHIND_ITEM, ROW, ROW_NAME, ROW_BIG }

    private At at = At.STATEMENT;
    private At behindEscape = At.STATEMENT;
    private int nameLength = 0;
    private int names = 0;
    private int depth = 0;

    /** The place of the first byte with which no text goes on so, their number if more must come, or -1. */
    static int firstBad(String text) {
        TextWalk walk = new TextWalk();
        for (int k = 0; k < text.length(); k++) {
            if (!walk.step(text.charAt(k))) {
                return k;
            }
        }
        return walk.at == At.STATEMENT ? -1 : text.length();
    }

    private boolean go(At next) {
        at = next;
        return true;
    }

    private static boolean blank(char c) {
        return c == 9 || c == 10 || c == 13 || c == 32;
    }

    private static boolean small(char c) {
        return c >= 'a' && c <= 'z';
    }

    private static boolean big(char c) {
        return c >= 'A' && c <= 'Z';
    }

    private static boolean digit(char c) {
        return c >= '0' && c <= '9';
    }

    private static boolean seen(char c) {
        return c >= 33 && c <= 126;
    }

    private boolean startName(At next) {
        nameLength = 1;
        return go(next);
    }

    private boolean goOnWithName() {
        nameLength++;
        return nameLength <= 12;
    }

    private boolean startInRow(At next) {
        names++;
        return names <= 8 && startName(next);
    }

    private boolean step(char c) {
        if (at == At.ESCAPE) {
            return seen(c) && go(behindEscape);
        }
        if (at == At.NAME || at == At.ROW_NAME) {
            if (small(c) || digit(c)) {
                return goOnWithName();
            }
            at = at == At.NAME ? At.BEHIND_NAME : At.ROW;
        }
        if (at == At.BIG || at == At.ROW_BIG) {
            if (small(c) || digit(c) || big(c)) {
                return goOnWithName();
            }
            at = at == At.BIG ? At.BEHIND_BIG : At.ROW;
        }
        return blank(c) || stepOn(c);
    }

    private boolean stepOn(char c) {
        switch (at) {
            case STATEMENT:
                return c == '-' ? go(At.DASH) : small(c) ? startName(At.NAME) : big(c) && startName(At.BIG);
            case DASH:
                return small(c) && startName(At.NAME);
            case BEHIND_NAME:
                return c == '=' && go(At.ATOM_DUE);
            case BEHIND_BIG:
                names = 0;
                return c == ':' && go(At.ROW);
            case ROW:
                return inRow(c);
            case ATOM_DUE:
                return atom(c);
            case BEHIND_ATOM:
                return "*+?".indexOf(c) >= 0 ? go(At.BEHIND_SIGN) : behindOne(c);
            case BEHIND_SIGN:
                return behindOne(c);
            default:
                return inSet(c);
        }
    }

    private boolean inRow(char c) {
        if (c == '|') {
            names = 0;
            return true;
        }
        return c == ';' ? go(At.STATEMENT)
                : small(c) ? startInRow(At.ROW_NAME) : big(c) && startInRow(At.ROW_BIG);
    }

    private boolean behindOne(char c) {
        if (c == '|') {
            return go(At.ATOM_DUE);
        }
        if (c == ')') {
            depth--;
            return depth >= 0 && go(At.BEHIND_ATOM);
        }
        return c == ';' ? depth == 0 && go(At.STATEMENT) : atom(c);
    }

    private boolean atom(char c) {
        if (c == '(') {
            depth++;
            return depth <= 20 && go(At.ATOM_DUE);
        }
        if (c == '[') {
            return go(At.SET_BEGUN);
        }
        return seen(c) && ")]|*+?;".indexOf(c) < 0 && ch(c, At.BEHIND_ATOM);
    }

    private boolean ch(char c, At next) {
        behindEscape = next;
        return go(c == '\\' ? At.ESCAPE : next);
    }

    private boolean inSet(char c) {
        boolean isCh = seen(c) && c != ']' && c != '-';
        switch (at) {
            case SET_BEGUN:
                return c == '^' ? go(At.SET_TURNED) : isCh && ch(c, At.BEHIND_CH);
            case SET_TURNED:
                return isCh && ch(c, At.BEHIND_CH);
            case BEHIND_DASH:
                return isCh && ch(c, At.BEHIND_ITEM);
            case BEHIND_CH:
                return c == '-' ? go(At.BEHIND_DASH) : c == ']' ? go(At.BEHIND_ATOM) : isCh && ch(c, At.BEHIND_CH);
            default:
                return c == ']' ? go(At.BEHIND_ATOM) : isCh && ch(c, At.BEHIND_CH);
        }
    }
}
