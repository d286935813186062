/** A GrammarStream with texts in place of packed bytes, and a count of the answers that are not due. */
final class Desk {
    private static int wrong = 0;

    final GrammarStream stream = new GrammarStream();

    /** The first character is a byte, and so on: 0 .. 255. */
    int type(String text) {
        int answer = 0;
        for (int k = 0; k < text.length(); k += 8) {
            String piece = text.substring(k, Math.min(k + 8, text.length()));
            answer = stream.type(packed(piece), piece.length());
        }
        return answer;
    }

    int build(String text) {
        type(text);
        return stream.build();
    }

    /** The answer of the last feed() for it. */
    int feed(String text) {
        int answer = 0;
        for (int k = 0; k < text.length(); k += 8) {
            String piece = text.substring(k, Math.min(k + 8, text.length()));
            answer = stream.feed(packed(piece), piece.length());
        }
        return answer;
    }

    static Desk made(String text) {
        Desk desk = new Desk();
        due("build of " + text, desk.build(text), 0);
        return desk;
    }

    static long packed(String text) {
        long bytes = 0;
        for (int k = 0; k < text.length(); k++) {
            bytes = bytes << 8 | text.charAt(k) & 255;
        }
        return bytes;
    }

    static String times(String text, int n) {
        StringBuilder all = new StringBuilder();
        for (int k = 0; k < n; k++) {
            all.append(text);
        }
        return all.toString();
    }

    static void due(String call, long got, long want) {
        if (got != want) {
            wrong++;
            System.out.println(call + " answered " + got + ", due is " + want);
        }
    }

    static void due(String call, boolean got, boolean want) {
        due(call, got ? 1 : 0, want ? 1 : 0);
    }

    static void end() {
        System.out.println(wrong == 0 ? "all answers are as due" : wrong + " answers are not as due");
        if (wrong != 0) {
            System.exit(1);
        }
    }
}
