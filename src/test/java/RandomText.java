import java.util.ArrayList;
import java.util.List;
import java.util.Random;

/** Texts by chance: most of them good, many with conflicts, some broken at a byte or two. */
final class RandomText {
    private static final String ODD = "-=:;|()[]*+?.^\\ \n\tabxSTA0_9n~\u007f\u0000\u00ff";

    private final Random random;
    private final List<String> tokens = new ArrayList<>();
    private final List<String> symbols = new ArrayList<>();

    RandomText(Random random) {
        this.random = random;
    }

    private int chance(int n) {
        return random.nextInt(n);
    }

    String next() {
        tokens.clear();
        symbols.clear();
        StringBuilder text = new StringBuilder();
        int tokenCount = chance(5) == 0 ? chance(3) : 1 + chance(5);
        int symbolCount = chance(12) == 0 ? 0 : 1 + chance(5);
        for (int k = 0; k < tokenCount; k++) {
            tokens.add(chance(40) == 0 ? "a" : "" + (char) ('a' + k) + (chance(5) == 0 ? "1" : ""));
        }
        for (int k = 0; k < symbolCount; k++) {
            symbols.add("" + (char) ('S' + k) + (chance(5) == 0 ? "a1" : ""));
        }
        List<String> statements = statements();
        for (String statement : statements) {
            text.append(statement);
        }
        return chance(5) == 0 ? broken(text) : text.toString();
    }

    private List<String> statements() {
        List<String> statements = new ArrayList<>();
        boolean plain = chance(3) == 0;
        int skip = chance(3) == 0 ? chance(tokens.size() + 1) : -1;
        for (int k = 0; k < tokens.size(); k++) {
            String exp = plain ? "" + (char) ('x' + k % 3) + (k > 2 ? "u" : "") : exp(2);
            statements.add((k == skip ? "-" + blank() : "") + tokens.get(k) + blank() + "=" + blank() + exp + ";");
        }
        if (skip >= 0 && skip < tokens.size() && chance(20) > 0) {
            tokens.remove(skip);
        }
        for (String symbol : symbols) {
            statements.add(rules(symbol));
            if (chance(12) == 0) {
                statements.add(rules(symbol));
            }
        }
        if (chance(4) == 0 && statements.size() > 1) {
            statements.add(chance(statements.size()), statements.remove(chance(statements.size())));
        }
        return statements;
    }

    private String rules(String symbol) {
        StringBuilder text = new StringBuilder(symbol + blank() + ":" + blank());
        int rows = 1 + chance(3);
        int firstToken = chance(4);
        for (int row = 0; row < rows; row++) {
            text.append(row > 0 ? "|" : "").append(blank());
            boolean empty = chance(4) == 0;
            // Different first tokens make conflicts rare enough.
            if (!empty && chance(4) > 0 && !tokens.isEmpty()) {
                text.append(tokens.get((firstToken + row) % tokens.size())).append(' ');
            }
            int length = empty ? 0 : chance(chance(30) == 0 ? 10 : 4);
            for (int k = 0; k < length; k++) {
                text.append(item()).append(chance(30) == 0 ? "" : " ");
            }
        }
        return text.append(";").append(blank()).toString();
    }

    private String item() {
        if (chance(80) == 0) {
            return chance(2) == 0 ? "nix" : "Nix";
        }
        List<String> names = tokens.isEmpty() || chance(2) == 0 && !symbols.isEmpty() ? symbols : tokens;
        return names.isEmpty() ? "" : names.get(chance(names.size()));
    }

    private String blank() {
        return chance(6) == 0 ? " \n\t\r".substring(0, 1 + chance(4)) : "";
    }

    private String exp(int depth) {
        StringBuilder text = new StringBuilder();
        int parts = 1 + (chance(3) == 0 ? chance(3) : 0);
        for (int part = 0; part < parts; part++) {
            text.append(part > 0 ? "|" : "");
            int ones = 1 + chance(3);
            for (int k = 0; k < ones; k++) {
                text.append(blank()).append(atom(depth));
                if (chance(3) == 0 && (ones > 1 || chance(6) == 0)) {
                    text.append(blank()).append("*+?".charAt(chance(3)));
                }
            }
        }
        return text.append(blank()).toString();
    }

    private String atom(int depth) {
        int kind = chance(12);
        if (kind < 2 && depth > 0) {
            return "(" + exp(depth - 1) + ")";
        }
        if (kind < 4) {
            return set();
        }
        if (kind == 4) {
            return new String[] {".", "\\n", "\\_", "\\x", "\\.", "\\t"}[chance(6)];
        }
        return "" + "xyzu".charAt(chance(4));
    }

    private String set() {
        StringBuilder text = new StringBuilder("[" + blank() + (chance(4) == 0 ? "^" : "") + blank());
        int items = 1 + chance(3);
        for (int k = 0; k < items; k++) {
            char low = "uwxyz!".charAt(chance(6));
            text.append(chance(15) == 0 ? "\\_" : "" + low).append(blank());
            if (chance(3) == 0) {
                text.append("-").append(blank()).append(chance(15) == 0 ? 'a' : 'z');
            }
        }
        return text.append(blank()).append("]").toString();
    }

    private String broken(StringBuilder text) {
        int breaks = 1 + chance(2);
        for (int k = 0; k < breaks && text.length() > 0; k++) {
            int place = chance(text.length());
            switch (chance(4)) {
                case 0:
                    text.deleteCharAt(place);
                    break;
                case 1:
                    text.setCharAt(place, ODD.charAt(chance(ODD.length())));
                    break;
                case 2:
                    text.insert(place, ODD.charAt(chance(ODD.length())));
                    break;
                default:
                    text.setLength(place);
                    break;
            }
        }
        return text.toString();
    }
}
