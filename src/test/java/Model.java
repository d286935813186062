import java.util.ArrayDeque;
import java.util.ArrayList;
import java.util.Deque;
import java.util.HashMap;
import java.util.HashSet;
import java.util.LinkedHashMap;
import java.util.List;
import java.util.Map;
import java.util.Set;
import java.util.TreeMap;
import java.util.TreeSet;

/** The document once more, in other ways and without regard to speed: what random runs are compared with. */
final class Model {
    int faultNumber = 0;
    int faultPlace = 0;
    boolean full = false;
    int[] clash = null;

    final List<String> tokens = new ArrayList<>();
    final List<Boolean> skipped = new ArrayList<>();
    final List<String> symbols = new ArrayList<>();
    final List<Integer> ruleSymbol = new ArrayList<>();
    final List<List<Integer>> rows = new ArrayList<>();

    /** The states are sets of places; null in place of a state is where the machine is stuck. */
    int placeCount = 0;
    final Map<Set<Integer>, Map<Integer, Set<Integer>>> ways = new LinkedHashMap<>();
    final Map<Set<Integer>, Integer> depths = new HashMap<>();
    private final List<List<Integer>> jumps = new ArrayList<>();
    private final List<Integer> placeFrom = new ArrayList<>();
    private final List<Integer> placeTo = new ArrayList<>();
    private final List<Set<Integer>> placeTakes = new ArrayList<>();
    private final Map<Integer, Integer> tokenAt = new HashMap<>();
    private int root;

    final Set<Integer> empties = new TreeSet<>();
    final List<Set<Integer>> firsts = new ArrayList<>();
    final List<Set<Integer>> follows = new ArrayList<>();
    final Map<List<Integer>, List<Integer>> cells = new TreeMap<>((a, b) -> a.get(0).equals(b.get(0))
            ? Integer.compare(a.get(1), b.get(1)) : Integer.compare(a.get(0), b.get(0)));

    private final String text;
    private int at = 0;

    Model(String text) {
        this.text = text;
        int bad = TextWalk.firstBad(text);
        if (bad >= 0) {
            faultNumber = 1;
            faultPlace = bad;
            return;
        }
        root = newNode();
        readText();
        if (faultNumber == 0 && symbols.isEmpty()) {
            tell(8, text.length());
        }
        if (faultNumber == 0) {
            findBarren();
        }
        if (faultNumber != 0) {
            return;
        }
        full = placeCount > 600 || !makeStates();
        if (!full) {
            makeSets();
            makeCells();
        }
    }

    int answer() {
        return faultNumber != 0 ? -10 - faultPlace : full ? -2 : clash != null ? -3 : 0;
    }

    private void tell(int number, int place) {
        if (faultNumber == 0 || place * 10 + number < faultPlace * 10 + faultNumber) {
            faultNumber = number;
            faultPlace = place;
        }
    }

    // ---- the text, which is known to have no fault 1

    private char peek() {
        while (at < text.length() && " \t\r\n".indexOf(text.charAt(at)) >= 0) {
            at++;
        }
        return at < text.length() ? text.charAt(at) : 0;
    }

    private String name() {
        peek();
        String pattern = Character.isUpperCase(text.charAt(at)) ? "[A-Za-z0-9]" : "[a-z0-9]";
        int start = at;
        while (text.substring(at, at + 1).matches(pattern)) {
            at++;
        }
        return text.substring(start, at);
    }

    private record Use(String name, int place, int row, int spot) {
    }

    private void readText() {
        List<Use> uses = new ArrayList<>();
        while (peek() != 0) {
            boolean skip = peek() == '-';
            at += skip ? 1 : 0;
            peek();
            int place = at;
            String name = name();
            peek();
            at++;
            if (Character.isUpperCase(name.charAt(0))) {
                readRows(name, place, uses);
            } else {
                readToken(name, place, skip);
            }
        }
        for (Use use : uses) {
            boolean big = Character.isUpperCase(use.name.charAt(0));
            int number = (big ? symbols : tokens).indexOf(use.name);
            if (number < 0) {
                tell(3, use.place);
            } else if (!big && skipped.get(number)) {
                tell(4, use.place);
            }
            rows.get(use.row).set(use.spot, big ? -1000 - number : number);
        }
    }

    final Map<String, Integer> symbolPlace = new HashMap<>();

    private void readRows(String name, int place, List<Use> uses) {
        if (!symbols.contains(name)) {
            symbols.add(name);
            symbolPlace.put(name, place);
            if (symbols.size() > 30) {
                tell(7, place);
            }
        }
        do {
            peek();
            if (rows.size() == 60) {
                tell(7, at);
            }
            List<Integer> row = new ArrayList<>();
            while (Character.isLetter(peek())) {
                int usePlace = at;
                uses.add(new Use(name(), usePlace, rows.size(), row.size()));
                row.add(0);
            }
            ruleSymbol.add(symbols.indexOf(name));
            rows.add(row);
            at++;
        } while (text.charAt(at - 1) == '|');
    }

    private void readToken(String name, int place, boolean skip) {
        if (tokens.contains(name)) {
            tell(2, place);
        } else {
            tokens.add(name);
            skipped.add(skip);
            if (tokens.size() == 25) {
                tell(7, place);
            }
        }
        peek();
        int start = at;
        int[] ends = exp();
        jumps.get(root).add(ends[0]);
        tokenAt.put(ends[1], tokens.indexOf(name));
        if (reach(Set.of(ends[0])).contains(ends[1])) {
            tell(6, start);
        }
        at++;
    }

    // ---- expressions as nodes with jumps between them, and places from node to node

    private int newNode() {
        jumps.add(new ArrayList<>());
        return jumps.size() - 1;
    }

    private void jump(int from, int to) {
        jumps.get(from).add(to);
    }

    private int[] exp() {
        int[] ends = {newNode(), newNode()};
        while (true) {
            int last = ends[0];
            while ("|;)".indexOf(peek()) < 0) {
                int[] one = one();
                jump(last, one[0]);
                last = one[1];
            }
            jump(last, ends[1]);
            if (peek() != '|') {
                return ends;
            }
            at++;
        }
    }

    private int[] one() {
        int[] inner;
        if (peek() == '(') {
            at++;
            inner = exp();
            peek();
            at++;
        } else {
            inner = new int[] {newNode(), newNode()};
            placeFrom.add(inner[0]);
            placeTo.add(inner[1]);
            placeTakes.add(atom());
            placeCount++;
        }
        int[] ends = {newNode(), newNode()};
        jump(ends[0], inner[0]);
        jump(inner[1], ends[1]);
        char sign = peek();
        if ("*+".indexOf(sign) >= 0) {
            jump(inner[1], inner[0]);
        }
        if ("*?".indexOf(sign) >= 0) {
            jump(ends[0], ends[1]);
        }
        at += "*+?".indexOf(sign) >= 0 ? 1 : 0;
        return ends;
    }

    private int sign() {
        peek();
        char c = text.charAt(at++);
        if (c != '\\') {
            return c;
        }
        char escaped = text.charAt(at++);
        int special = "nt_".indexOf(escaped);
        return special < 0 ? escaped : "\n\t ".charAt(special);
    }

    private Set<Integer> atom() {
        Set<Integer> bytes = new HashSet<>();
        if (peek() == '.') {
            at++;
            addRange(bytes, 32, 126);
        } else if (peek() == '[') {
            at++;
            boolean not = peek() == '^';
            at += not ? 1 : 0;
            while (peek() != ']') {
                item(bytes);
            }
            at++;
            if (not) {
                Set<Integer> others = new HashSet<>();
                addRange(others, 32, 126);
                others.removeAll(bytes);
                bytes = others;
            }
        } else {
            bytes.add(sign());
        }
        return bytes;
    }

    private void item(Set<Integer> bytes) {
        int start = at;
        int low = sign();
        int high = low;
        if (peek() == '-') {
            at++;
            high = sign();
        }
        if (low > high) {
            tell(5, start);
        }
        addRange(bytes, low, high);
    }

    private static void addRange(Set<Integer> bytes, int low, int high) {
        for (int b = low; b <= high; b++) {
            bytes.add(b);
        }
    }

    private Set<Integer> reach(Set<Integer> nodes) {
        Set<Integer> seen = new HashSet<>(nodes);
        Deque<Integer> open = new ArrayDeque<>(nodes);
        while (!open.isEmpty()) {
            for (int to : jumps.get(open.pop())) {
                if (seen.add(to)) {
                    open.push(to);
                }
            }
        }
        return seen;
    }

    /** The nodes behind a state; the empty set of places is the first state. */
    private Set<Integer> behind(Set<Integer> state) {
        Set<Integer> nodes = new HashSet<>();
        for (int place : state) {
            nodes.add(placeTo.get(place));
        }
        return reach(state.isEmpty() ? Set.of(root) : nodes);
    }

    private boolean makeStates() {
        Deque<Set<Integer>> open = new ArrayDeque<>();
        open.add(Set.of());
        depths.put(Set.of(), 0);
        while (!open.isEmpty()) {
            Set<Integer> state = open.poll();
            Map<Integer, Set<Integer>> out = new HashMap<>();
            ways.put(state, out);
            Set<Integer> nodes = behind(state);
            for (int b = 0; b < 256; b++) {
                Set<Integer> to = new TreeSet<>();
                for (int place = 0; place < placeCount; place++) {
                    if (nodes.contains(placeFrom.get(place)) && placeTakes.get(place).contains(b)) {
                        to.add(place);
                    }
                }
                if (!to.isEmpty()) {
                    out.put(b, to);
                    if (!depths.containsKey(to)) {
                        depths.put(to, depths.get(state) + 1);
                        open.add(to);
                    }
                }
            }
            if (depths.size() > 400) {
                return false;
            }
        }
        return true;
    }

    private final Map<Set<Integer>, Integer> findsKept = new HashMap<>();

    int finds(Set<Integer> state) {
        return findsKept.computeIfAbsent(state, s -> {
            int token = -1;
            if (!s.isEmpty()) {
                for (int node : behind(s)) {
                    Integer ended = tokenAt.get(node);
                    token = ended != null && (token < 0 || ended < token) ? ended : token;
                }
            }
            return token;
        });
    }

    int hopefulCount() {
        int hopeful = 0;
        for (Set<Integer> state : ways.keySet()) {
            Set<Set<Integer>> seen = new HashSet<>(Set.of(state));
            Deque<Set<Integer>> open = new ArrayDeque<>(seen);
            boolean hope = false;
            while (!open.isEmpty()) {
                Set<Integer> next = open.pop();
                hope = hope || finds(next) >= 0;
                for (Set<Integer> to : ways.get(next).values()) {
                    if (seen.add(to)) {
                        open.push(to);
                    }
                }
            }
            hopeful += hope ? 1 : 0;
        }
        return hopeful;
    }

    int shortest(int token) {
        int shortest = 0;
        for (Set<Integer> state : ways.keySet()) {
            if (finds(state) == token && (shortest == 0 || depths.get(state) < shortest)) {
                shortest = depths.get(state);
            }
        }
        return shortest;
    }

    // ---- the grammar, by what can be next to what

    private static boolean isSymbol(int item) {
        return item < 0;
    }

    private static int symbolOf(int item) {
        return -1000 - item;
    }

    private void findBarren() {
        Set<Integer> fertile = new HashSet<>();
        boolean grows = true;
        while (grows) {
            grows = false;
            for (int rule = 0; rule < rows.size(); rule++) {
                if (rows.get(rule).stream().allMatch(item -> !isSymbol(item) || fertile.contains(symbolOf(item)))) {
                    grows |= fertile.add(ruleSymbol.get(rule));
                }
            }
        }
        for (int symbol = 0; symbol < symbols.size(); symbol++) {
            if (!fertile.contains(symbol)) {
                faultNumber = 9;
                faultPlace = symbolPlace.get(symbols.get(symbol));
                return;
            }
        }
    }

    private boolean isEmpty(List<Integer> row) {
        return row.stream().allMatch(item -> isSymbol(item) && empties.contains(symbolOf(item)));
    }

    /** All items with which, or with back with whose row's end, what comes from an item can begin or end. */
    private Set<Integer> edge(int item, boolean back) {
        Set<Integer> seen = new TreeSet<>(Set.of(item));
        Deque<Integer> open = new ArrayDeque<>(seen);
        while (!open.isEmpty()) {
            int next = open.pop();
            for (int rule = 0; rule < rows.size(); rule++) {
                List<Integer> row = rows.get(rule);
                for (int k = 0; isSymbol(next) && ruleSymbol.get(rule) == symbolOf(next) && k < row.size(); k++) {
                    List<Integer> before = back ? row.subList(k + 1, row.size()) : row.subList(0, k);
                    if (isEmpty(before) && seen.add(row.get(k))) {
                        open.push(row.get(k));
                    }
                }
            }
        }
        return seen;
    }

    private void makeSets() {
        boolean grows = true;
        while (grows) {
            grows = false;
            for (int rule = 0; rule < rows.size(); rule++) {
                if (isEmpty(rows.get(rule))) {
                    grows |= empties.add(ruleSymbol.get(rule));
                }
            }
        }
        for (int symbol = 0; symbol < symbols.size(); symbol++) {
            firsts.add(tokensOf(edge(-1000 - symbol, false)));
            follows.add(new TreeSet<>());
        }
        putBehind(-1000, tokens.size());
        for (int rule : rulesFromStart()) {
            List<Integer> row = rows.get(rule);
            for (int i = 0; i < row.size(); i++) {
                for (int j = i + 1; j < row.size() && isEmpty(row.subList(i + 1, j)); j++) {
                    for (int token : tokensOf(edge(row.get(j), false))) {
                        putBehind(row.get(i), token);
                    }
                }
            }
        }
    }

    private static Set<Integer> tokensOf(Set<Integer> items) {
        Set<Integer> found = new TreeSet<>(items);
        found.removeIf(Model::isSymbol);
        return found;
    }

    private void putBehind(int item, int token) {
        for (int last : edge(item, true)) {
            if (isSymbol(last)) {
                follows.get(symbolOf(last)).add(token);
            }
        }
    }

    private List<Integer> rulesFromStart() {
        Set<Integer> come = new HashSet<>(Set.of(0));
        boolean grows = true;
        while (grows) {
            grows = false;
            for (int rule = 0; rule < rows.size(); rule++) {
                for (int item : rows.get(rule)) {
                    if (come.contains(ruleSymbol.get(rule)) && isSymbol(item)) {
                        grows |= come.add(symbolOf(item));
                    }
                }
            }
        }
        List<Integer> rules = new ArrayList<>();
        for (int rule = 0; rule < rows.size(); rule++) {
            if (come.contains(ruleSymbol.get(rule))) {
                rules.add(rule);
            }
        }
        return rules;
    }

    private void makeCells() {
        for (int rule = 0; rule < rows.size(); rule++) {
            List<Integer> row = rows.get(rule);
            int symbol = ruleSymbol.get(rule);
            Set<Integer> chosenBy = new TreeSet<>();
            for (int k = 0; k < row.size() && isEmpty(row.subList(0, k)); k++) {
                chosenBy.addAll(tokensOf(edge(row.get(k), false)));
            }
            if (isEmpty(row)) {
                chosenBy.addAll(follows.get(symbol));
            }
            for (int token : chosenBy) {
                cells.computeIfAbsent(List.of(symbol, token), key -> new ArrayList<>()).add(rule);
            }
        }
        for (Map.Entry<List<Integer>, List<Integer>> cell : cells.entrySet()) {
            if (cell.getValue().size() > 1 && clash == null) {
                clash = new int[] {cell.getKey().get(0), cell.getKey().get(1),
                    cell.getValue().get(0), cell.getValue().get(1)};
            }
        }
    }

    int cell(int symbol, int token) {
        List<Integer> rules = cells.get(List.of(symbol, token));
        return rules == null ? -1 : rules.get(0);
    }

    /** The rows of up to n tokens themselves, for each length; null when they are too many. */
    List<Set<String>> rowsUpTo(int n) {
        List<Set<String>> come = new ArrayList<>();
        for (int symbol = 0; symbol < symbols.size(); symbol++) {
            come.add(new HashSet<>());
        }
        boolean grows = true;
        while (grows) {
            grows = false;
            for (int rule = 0; rule < rows.size(); rule++) {
                Set<String> made = Set.of("");
                for (int item : rows.get(rule)) {
                    Set<String> longer = new HashSet<>();
                    for (String begin : made) {
                        for (String end : isSymbol(item) ? come.get(symbolOf(item)) : Set.of("" + (char) item)) {
                            if (begin.length() + end.length() <= n) {
                                longer.add(begin + end);
                            }
                        }
                    }
                    made = longer;
                    if (made.size() > 2000) {
                        return null;
                    }
                }
                grows |= come.get(ruleSymbol.get(rule)).addAll(made);
            }
        }
        List<Set<String>> byLength = new ArrayList<>();
        for (int length = 0; length <= n; length++) {
            int wanted = length;
            Set<String> some = new HashSet<>(come.get(0));
            some.removeIf(row -> row.length() != wanted);
            byLength.add(some);
        }
        return byLength;
    }
}
