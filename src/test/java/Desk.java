/**
 * A GrammarStream that takes texts in place of packed bytes, and a count of the answers that are not due. Nothing is
 * promised of an object behind its 512th call, so a test that goes beyond it is stopped.
 */
final class Desk {
    /** Where a run by chance ends; elsewhere it is a fault of the test. */
    static final class OutOfCalls extends RuntimeException {
        private static final long serialVersionUID = 1;

        OutOfCalls() {
            super("a 513th call of one object");
        }
    }

    private static final int MOST_CALLS = 512;
    private static int wrong = 0;

    private final GrammarStream stream = new GrammarStream();
    private int calls = 0;

    private GrammarStream called() {
        calls++;
        if (calls > MOST_CALLS) {
            throw new OutOfCalls();
        }
        return stream;
    }

    int type(long bytes, int n) {
        return called().type(bytes, n);
    }

    /** The first character is a byte, and so on: 0 .. 255. Answers what the last call did. */
    int type(String text) {
        int answer = 0;
        for (int k = 0; k < text.length(); k += 8) {
            String piece = text.substring(k, Math.min(k + 8, text.length()));
            answer = type(packed(piece), piece.length());
        }
        return answer;
    }

    int build() {
        return called().build();
    }

    int build(String text) {
        type(text);
        return build();
    }

    int fault(int what) {
        return called().fault(what);
    }

    int conflict(int what) {
        return called().conflict(what);
    }

    boolean first(int symbol, int token) {
        return called().first(symbol, token);
    }

    boolean follow(int symbol, int token) {
        return called().follow(symbol, token);
    }

    boolean empty(int symbol) {
        return called().empty(symbol);
    }

    int cell(int symbol, int token) {
        return called().cell(symbol, token);
    }

    int many(int what) {
        return called().many(what);
    }

    int rule(int rule, int what) {
        return called().rule(rule, what);
    }

    int token(int token, int what) {
        return called().token(token, what);
    }

    long count(int n) {
        return called().count(n);
    }

    int feed(long bytes, int n) {
        return called().feed(bytes, n);
    }

    /** Answers what the last call did. */
    int feed(String text) {
        int answer = 0;
        for (int k = 0; k < text.length(); k += 8) {
            String piece = text.substring(k, Math.min(k + 8, text.length()));
            answer = feed(packed(piece), piece.length());
        }
        return answer;
    }

    int finish() {
        return called().finish();
    }

    int reset() {
        return called().reset();
    }

    int stream(int what) {
        return called().stream(what);
    }

    int found(int k, int what) {
        return called().found(k, what);
    }

    int noted(int k, int what) {
        return called().noted(k, what);
    }

    boolean expected(int token) {
        return called().expected(token);
    }

    static Desk made(String text) {
        Desk desk = new Desk();
        due("build of " + text, desk.build(text), 0);
        return desk;
    }

    /** A text with a fault, of which nothing is made. */
    static void faulty(String text, int number, int place) {
        Desk desk = new Desk();
        due("build of " + text, desk.build(text), -10 - place);
        due("fault of " + text, desk.fault(0), number);
        due("place in " + text, desk.fault(1), place);
        due("nothing is made of " + text, desk.many(1), 0);
        due("the tape is empty behind " + text, desk.many(6), 0);
    }

    /** What stream() answers for 0, 1, .. */
    void streamIs(String told, int... numbers) {
        for (int what = 0; what < numbers.length; what++) {
            due(told + ": stream " + what, stream(what), numbers[what]);
        }
    }

    /** What found() answers for 0, 1, 2 of each token, and that there is no further one. */
    void foundIs(String told, int... numbers) {
        for (int k = 0; k < numbers.length; k++) {
            due(told + ": found " + k / 3 + " " + k % 3, found(k / 3, k % 3), numbers[k]);
        }
        due(told + ": no further one", found(numbers.length / 3, 0), -1);
    }

    /** The tokens that are expected, as bits; those around 0 .. most are not. */
    void expectedIs(String told, int most, int set) {
        for (int token = -1; token <= most + 1; token++) {
            boolean want = token >= 0 && (set >>> token & 1) != 0;
            due(told + ": expected " + token, expected(token), want);
        }
    }

    static long packed(String text) {
        long bytes = 0;
        for (int k = 0; k < text.length(); k++) {
            bytes = bytes << 8 | text.charAt(k) & 255;
        }
        return bytes;
    }

    static String times(String text, int n) {
        StringBuilder all = new StringBuilder();
        for (int k = 0; k < n; k++) {
            all.append(text);
        }
        return all.toString();
    }

    static void due(String call, long got, long want) {
        if (got != want) {
            wrong++;
            System.out.println(shortened(call) + " answered " + got + ", due is " + want);
        }
    }

    private static String shortened(String call) {
        return call.length() <= 300 ? call : call.substring(0, 200) + " .. " + call.substring(call.length() - 90);
    }

    static void due(String call, boolean got, boolean want) {
        due(call, got ? 1 : 0, want ? 1 : 0);
    }

    static void end() {
        System.out.println(wrong == 0 ? "all answers are as due" : wrong + " answers are not as due");
        if (wrong != 0) {
            System.exit(1);
        }
    }
}
