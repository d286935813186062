import java.util.List;
import java.util.Map;
import java.util.Random;
import java.util.Set;

/** Random texts and streams: the class must answer what the model does. */
public final class ModelTest {
    private static final int RUNS = 6000;

    private static String told = "";
    private static final int[] outcomes = new int[14];
    private static int fullRuns = 0;

    public static void main(String[] args) {
        int runs = args.length > 0 ? Integer.parseInt(args[0]) : RUNS;
        long seed = args.length > 1 ? Long.parseLong(args[1]) : 1;
        for (int run = 0; run < runs; run++) {
            try {
                oneRun(new Random(seed * 1000003 + run));
            } catch (Desk.OutOfCalls end) {
                fullRuns++;
            }
        }
        for (int number = 1; number <= 9; number++) {
            // 7 needs texts that are longer than these.
            Desk.due("no text with fault " + number, outcomes[number] > 0 || number == 7, true);
        }
        Desk.due("good texts", outcomes[0] > runs / 4, true);
        Desk.due("conflicts", outcomes[10] > 0, true);
        System.out.println("good " + outcomes[0] + ", conflicts " + outcomes[10] + ", all calls used " + fullRuns);
        System.out.println("streams accepted " + outcomes[11] + ", error 1 " + outcomes[12] + ", 2 " + outcomes[13]);
        Desk.end();
    }

    private static void due(String call, long got, long want) {
        if (got != want) {
            Desk.due(told + " >> " + call, got, want);
        }
    }

    private static void oneRun(Random random) {
        Desk desk = new Desk();
        RandomText texts = new RandomText(random);
        Model made = null;
        for (int k = 0; k < 4; k++) {
            String text = texts.next();
            told = text;
            Model model = new Model(text);
            due("typed", desk.type(text), text.length());
            due("build", desk.build(), model.answer());
            faultIs(desk, model);
            if (model.answer() == 0) {
                made = model;
                outcomes[0]++;
            }
            if (made != null) {
                lookAt(desk, made, random);
            }
        }
    }

    /** Not at all each time: a run that looks less at the first texts has calls for later ones. */
    private static void lookAt(Desk desk, Model made, Random random) {
        if (random.nextInt(2) == 0) {
            machineIs(desk, made);
        }
        if (random.nextInt(3) == 0) {
            grammarIs(desk, made);
        }
        streams(desk, made, random);
    }

    private static void faultIs(Desk x, Model model) {
        due("fault 0", x.fault(0), model.faultNumber);
        due("fault 1", x.fault(1), model.faultNumber == 0 ? 0 : model.faultPlace);
        outcomes[model.faultNumber] += model.faultNumber == 0 ? 0 : 1;
        outcomes[10] += model.clash == null ? 0 : 1;
        for (int what = -1; what <= 4; what++) {
            boolean is = model.clash != null && what >= 0 && what < 4;
            due("conflict " + what, x.conflict(what), is ? model.clash[what] : -1);
        }
    }

    private static void grammarIs(Desk x, Model model) {
        int tokens = model.tokens.size();
        due("many 0", x.many(0), tokens);
        due("many 1", x.many(1), model.symbols.size());
        due("many 2", x.many(2), model.rows.size());
        for (int symbol = -1; symbol <= model.symbols.size(); symbol++) {
            boolean is = symbol >= 0 && symbol < model.symbols.size();
            due("empty " + symbol, x.empty(symbol) ? 1 : 0, is && model.empties.contains(symbol) ? 1 : 0);
            for (int token = -1; token <= tokens + 1; token++) {
                boolean first = is && model.firsts.get(symbol).contains(token);
                boolean follow = is && model.follows.get(symbol).contains(token);
                due("first " + symbol + " " + token, x.first(symbol, token) ? 1 : 0, first ? 1 : 0);
                due("follow " + symbol + " " + token, x.follow(symbol, token) ? 1 : 0, follow ? 1 : 0);
                due("cell " + symbol + " " + token, x.cell(symbol, token), model.cell(symbol, token));
            }
        }
        for (int rule = 0; rule < model.rows.size(); rule++) {
            List<Integer> row = model.rows.get(rule);
            due("rule " + rule, x.rule(rule, 0), model.ruleSymbol.get(rule));
            due("rule " + rule + " 1", x.rule(rule, 1), row.size());
            for (int k = 0; k <= row.size(); k++) {
                due("rule " + rule + " 2+" + k, x.rule(rule, 2 + k), k < row.size() ? row.get(k) : -1);
            }
        }
        List<Set<String>> rows = model.rowsUpTo(6);
        for (int n = 0; rows != null && n < rows.size(); n++) {
            due("count " + n, x.count(n), rows.get(n).size());
        }
    }

    private static void machineIs(Desk x, Model model) {
        due("many 3", x.many(3), model.placeCount);
        due("many 4", x.many(4), model.ways.size());
        due("many 5", x.many(5), model.hopefulCount());
        for (int token = 0; token < model.tokens.size(); token++) {
            due("token " + token + " 0", x.token(token, 0), model.skipped.get(token) ? 1 : 0);
            due("token " + token + " 1", x.token(token, 1), model.shortest(token));
        }
    }

    /** Bytes that the machine likes, mostly. */
    private static String bytes(Model model, Random random) {
        StringBuilder text = new StringBuilder();
        Set<Integer> state = Set.of();
        int length = random.nextInt(30);
        for (int k = 0; k < length; k++) {
            Map<Integer, Set<Integer>> ways = model.ways.get(state);
            if (ways.isEmpty() || model.finds(state) >= 0 && random.nextInt(3) == 0) {
                state = Set.of();
                ways = model.ways.get(state);
            }
            if (ways.isEmpty() || random.nextInt(40) == 0) {
                text.append("xyzu\n ".charAt(random.nextInt(6)));
                continue;
            }
            Integer[] some = ways.keySet().toArray(new Integer[0]);
            int b = some[random.nextInt(some.length)];
            text.append((char) b);
            state = ways.get(b);
        }
        return text.toString();
    }

    /** Rows of tokens that the parser likes, as bytes. */
    private static String goodBytes(Model model, Random random) {
        StringBuilder text = new StringBuilder();
        for (int k = 0; k < 8; k++) {
            ModelStream stream = new ModelStream(model, text.toString(), false);
            for (int n = 0; n < 6; n++) {
                String more = text + bytes(model, random);
                ModelStream next = new ModelStream(model, more, false);
                if (next.error == 0 && next.found.size() > stream.found.size()) {
                    text = new StringBuilder(more);
                    break;
                }
            }
        }
        for (int n = 0; n < 20; n++) {
            String more = text.substring(0, random.nextInt(text.length() + 1));
            if (new ModelStream(model, more, true).error == 0) {
                return more;
            }
        }
        return text.toString();
    }

    private static void streams(Desk desk, Model model, Random random) {
        for (int k = 0; k < 2; k++) {
            String bytes = k % 2 == 0 ? bytes(model, random) : goodBytes(model, random);
            desk.reset();
            String fed = "";
            while (!bytes.isEmpty()) {
                int n = Math.min(bytes.length(), 1 + random.nextInt(8));
                String piece = bytes.substring(0, n);
                bytes = bytes.substring(n);
                fed += piece;
                ModelStream stream = new ModelStream(model, fed, false);
                due("feed of " + fed, desk.feed(piece), stream.error);
                if (random.nextInt(6) == 0) {
                    streamIs(desk, model, stream, fed, false);
                }
            }
            if (random.nextInt(8) > 0) {
                ModelStream stream = new ModelStream(model, fed, true);
                due("finish of " + fed, desk.finish(), stream.error);
                if (random.nextInt(2) == 0) {
                    streamIs(desk, model, stream, fed, true);
                }
                due("finish again", desk.finish(), stream.error);
                due("feed", desk.feed("x"), -1);
                outcomes[11 + Math.min(stream.error, 2)]++;
            }
            due("bytes", desk.stream(0), fed.length());
        }
    }

    private static void streamIs(Desk x, Model model, ModelStream stream, String fed, boolean finished) {
        int[] due = {fed.length(), stream.error, stream.error == 0 ? -1 : stream.errorPlace, finished ? 1 : 0,
            stream.found.size(), stream.noted.size(), stream.pileSize()};
        for (int token = -1; token <= model.tokens.size() + 1; token++) {
            boolean may = token == model.tokens.size()
                    || token >= 0 && token < model.tokens.size() && !model.skipped.get(token);
            boolean expected = may && stream.error == 0 && !finished && stream.wouldTake(token);
            due("expected " + token + " behind " + fed, x.expected(token) ? 1 : 0, expected ? 1 : 0);
        }
        for (int what = 0; what < due.length; what++) {
            due("stream " + what + " of " + fed, x.stream(what), due[what]);
        }
        for (int k = 0; k <= stream.found.size(); k++) {
            for (int what = 0; what < 3; what++) {
                boolean is = k < stream.found.size();
                due("found " + k + " " + what + " of " + fed, x.found(k, what), is ? stream.found.get(k)[what] : -1);
            }
        }
        for (int k = 0; k <= stream.noted.size(); k++) {
            for (int what = 0; what < 4; what++) {
                boolean is = k < stream.noted.size();
                due("noted " + k + " " + what + " of " + fed, x.noted(k, what), is ? stream.noted.get(k)[what] : -1);
            }
        }
    }
}
