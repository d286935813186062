import java.util.ArrayList;
import java.util.List;
import java.util.Set;

/** A stream of a model, read anew from its first byte on each time it is asked for. */
final class ModelStream {
    private record OnPile(int item, int parent, int spot) {
    }

    final List<int[]> found = new ArrayList<>();
    final List<int[]> noted = new ArrayList<>();
    int error = 0;
    int errorPlace = 0;
    private final Model model;
    private List<OnPile> pile = new ArrayList<>();
    private int gone = 0;

    ModelStream(Model model, String bytes, boolean finished) {
        this.model = model;
        pile.add(new OnPile(-1000, -1, 0));
        int begin = 0;
        while (error == 0 && begin < bytes.length()) {
            begin = scan(bytes, begin, finished);
            if (begin < 0) {
                return;
            }
        }
        if (error == 0 && finished) {
            give(model.tokens.size(), bytes.length());
        }
    }

    int pileSize() {
        return pile.size();
    }

    /** Where the next token begins; -1 if it is not known yet. */
    private int scan(String bytes, int begin, boolean finished) {
        Set<Integer> state = Set.of();
        int longest = -1;
        int token = -1;
        int k = begin;
        while (k < bytes.length() && model.ways.get(state).get((int) bytes.charAt(k)) != null) {
            state = model.ways.get(state).get((int) bytes.charAt(k));
            k++;
            if (model.finds(state) >= 0) {
                longest = k;
                token = model.finds(state);
            }
        }
        if (k == bytes.length() && !finished) {
            return -1;
        }
        if (longest < 0) {
            error = 1;
            errorPlace = begin;
        } else if (!model.skipped.get(token)) {
            found.add(new int[] {token, begin, longest});
            give(token, begin);
        }
        return longest;
    }

    private void give(int token, int place) {
        error = take(token);
        errorPlace = place;
    }

    private int take(int token) {
        while (!pile.isEmpty()) {
            OnPile top = pile.get(pile.size() - 1);
            if (top.item >= 0) {
                if (top.item != token) {
                    return 2;
                }
                pile.remove(pile.size() - 1);
                gone++;
                return 0;
            }
            int rule = model.cell(-1000 - top.item, token);
            if (rule < 0) {
                return 2;
            }
            List<Integer> row = model.rows.get(rule);
            if (noted.size() == 20000 || pile.size() - 1 + row.size() > 6000) {
                return 3;
            }
            pile.remove(pile.size() - 1);
            noted.add(new int[] {rule, top.parent, top.spot, gone});
            for (int spot = row.size() - 1; spot >= 0; spot--) {
                pile.add(new OnPile(row.get(spot), noted.size() - 1, spot));
            }
        }
        return token == model.tokens.size() ? 0 : 2;
    }

    /** Whether a token would be no error; nothing changes. */
    boolean wouldTake(int token) {
        List<OnPile> kept = new ArrayList<>(pile);
        int keptGone = gone;
        int keptNoted = noted.size();
        boolean fits = take(token) == 0;
        pile = kept;
        gone = keptGone;
        while (noted.size() > keptNoted) {
            noted.remove(noted.size() - 1);
        }
        return fits;
    }
}
