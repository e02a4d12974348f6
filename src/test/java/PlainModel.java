import java.util.ArrayList;
import java.util.List;

/**
 * The document's words done in the plainest and slowest way, for ModelTest to ask beside the class: every answer is
 * worked out anew from what was told and done, by trying all that the words allow.
 */
final class PlainModel {
    static final int BAD = -1, STATE = -2, FULL = -3, NONE = -9;

    private record Line(int r, int k) {
    }

    private record Revision(List<Integer> parents, String lines) {
    }

    private record Sight(Line line, int from, boolean is) {
    }

    private record Settings(int block, int passed, int rules) {
    }

    private static final Settings AT_FIRST = new Settings(2, 0, 15);

    private String text = "";
    private List<Revision> revisions = new ArrayList<>();
    private Settings now = AT_FIRST;
    private final List<Settings> earlier = new ArrayList<>();
    private final List<Sight> seen = new ArrayList<>();
    private final Settings[] images = new Settings[2];

    int type(int letter) {
        if (letter < 0 || letter > 255) {
            return BAD;
        }
        if (text.length() == 120) {
            return FULL;
        }
        text += (char) letter;
        return text.length();
    }

    int clear() {
        int had = text.length();
        text = "";
        return had;
    }

    int history() {
        List<Revision> told = new ArrayList<>();
        int fault = read(told);
        if (fault >= 0) {
            return -10 - fault;
        }
        revisions = told;
        text = "";
        now = AT_FIRST;
        earlier.clear();
        seen.clear();
        images[0] = null;
        images[1] = null;
        return revisions.size();
    }

    /** FAULT or -1: all TOKENS with their places first, then what may stand where. */
    private int read(List<Revision> told) {
        List<String> tokens = new ArrayList<>();
        List<Integer> places = new ArrayList<>();
        int at = 0;
        while (at < text.length()) {
            String token = text.substring(at, at + 1);
            while (token.matches("[0-9]+") && at + token.length() < text.length()
                    && Character.toString(text.charAt(at + token.length())).matches("[0-9]")) {
                token = text.substring(at, at + token.length() + 1);
            }
            if (!token.equals(" ")) {
                tokens.add(token);
                places.add(at);
            }
            at += token.length();
        }
        String ahead = "";
        for (int i = 0; i < tokens.size(); i++) {
            if (!canStand(tokens.get(i), ahead, told)) {
                return places.get(i);
            }
            ahead += tokens.get(i) + " ";
            if (tokens.get(i).equals(";")) {
                told.add(revision(ahead));
                ahead = "";
            }
        }
        return ahead.isEmpty() ? -1 : text.length();
    }

    private static boolean canStand(String token, String ahead, List<Revision> told) {
        if (token.equals("R")) {
            return ahead.isEmpty() && told.size() < 8;
        }
        if (token.equals(":")) {
            return ahead.matches("R ([0-9]+ )*");
        }
        if (token.equals(";")) {
            return ahead.contains(":");
        }
        if (token.matches("[a-z]")) {
            return ahead.contains(":") && !ahead.matches(".*: ([a-z] ){8}");
        }
        if (token.matches("0|[1-9][0-9]?")) {
            boolean again = ahead.contains(" " + token + " ");
            return ahead.matches("R ([0-9]+ )?") && !again && Integer.parseInt(token) < told.size();
        }
        return false;
    }

    private static Revision revision(String item) {
        List<Integer> parents = new ArrayList<>();
        for (String number : item.substring(1, item.indexOf(':')).trim().split(" ")) {
            if (!number.isEmpty()) {
                parents.add(Integer.parseInt(number));
            }
        }
        return new Revision(parents, item.substring(item.indexOf(':')).replaceAll("[^a-z]", ""));
    }

    private boolean isRevision(int r) {
        return r >= 0 && r < revisions.size();
    }

    private boolean isLine(int r, int k) {
        return isRevision(r) && k >= 0 && k < lines(r).length();
    }

    private String lines(int r) {
        return revisions.get(r).lines;
    }

    private int parent(int r, int which) {
        List<Integer> parents = revisions.get(r).parents;
        return which < parents.size() ? parents.get(which) : NONE;
    }

    int revision(int r, int what) {
        if (!isRevision(r) || what < 0 || what > 3) {
            return BAD;
        }
        if (what == 0) {
            return lines(r).length();
        }
        return what == 3 ? now.passed >> r & 1 : parent(r, what - 1);
    }

    private static int common(String a, String b) {
        int[][] most = new int[a.length() + 1][b.length() + 1];
        for (int i = 1; i <= a.length(); i++) {
            for (int j = 1; j <= b.length(); j++) {
                most[i][j] = a.charAt(i - 1) == b.charAt(j - 1) ? most[i - 1][j - 1] + 1
                        : Math.max(most[i - 1][j], most[i][j - 1]);
            }
        }
        return most[a.length()][b.length()];
    }

    /** For each LINE of b its PAIR in a. */
    private static int[] pairs(String a, String b) {
        int[] pairs = new int[b.length()];
        java.util.Arrays.fill(pairs, NONE);
        int i = 0;
        int j = 0;
        while (i < a.length() && j < b.length()) {
            int here = common(a.substring(i), b.substring(j));
            if (a.charAt(i) == b.charAt(j) && here == common(a.substring(i + 1), b.substring(j + 1)) + 1) {
                pairs[j++] = i++;
            } else if (common(a.substring(i + 1), b.substring(j)) >= common(a.substring(i), b.substring(j + 1))) {
                i++;
            } else {
                j++;
            }
        }
        return pairs;
    }

    private int pair(int r, int k, int which) {
        int parent = parent(r, which);
        return parent == NONE ? NONE : pairs(lines(parent), lines(r))[k];
    }

    private static boolean hasPair(int[] pairs, int parentLine) {
        for (int pair : pairs) {
            if (pair == parentLine) {
                return true;
            }
        }
        return false;
    }

    private Line given(int rule, Line line, Settings settings) {
        int parent = parent(line.r, rule == 1 ? 1 : 0);
        if (parent == NONE) {
            return null;
        }
        int k = NONE;
        if (rule == 0 || rule == 1) {
            k = pair(line.r, line.k, rule);
        } else if (rule == 2) {
            k = moved(lines(parent), lines(line.r), line.k, settings.block);
        } else if ((settings.passed >> line.r & 1) == 1) {
            k = passedOver(lines(parent), lines(line.r), line.k);
        }
        return k == NONE ? null : new Line(parent, k);
    }

    private static int moved(String a, String b, int k, int block) {
        int[] pairs = pairs(a, b);
        if (block == 0 || pairs[k] != NONE) {
            return NONE;
        }
        for (int length = 8; length >= block; length--) {
            for (int i = 0; i + length <= a.length(); i++) {
                for (int j = Math.max(0, k - length + 1); j <= k && j + length <= b.length(); j++) {
                    if (isFreeRow(a, b, pairs, i, j, length)) {
                        return i + k - j;
                    }
                }
            }
        }
        return NONE;
    }

    private static boolean isFreeRow(String a, String b, int[] pairs, int i, int j, int length) {
        for (int step = 0; step < length; step++) {
            if (pairs[j + step] != NONE || hasPair(pairs, i + step)) {
                return false;
            }
        }
        return a.substring(i, i + length).equals(b.substring(j, j + length));
    }

    private static int passedOver(String a, String b, int k) {
        int[] pairs = pairs(a, b);
        int behind = 1;
        while (k - behind >= 0 && pairs[k - behind] == NONE) {
            behind++;
        }
        int from = k - behind >= 0 ? pairs[k - behind] : -1;
        if (from + behind >= a.length()) {
            return NONE;
        }
        for (int i = from + 1; i <= from + behind; i++) {
            if (hasPair(pairs, i)) {
                return NONE;
            }
        }
        return from + behind;
    }

    private int ruleOf(Line line, Settings settings) {
        for (int rule = 0; rule < 4; rule++) {
            if ((settings.rules >> rule & 1) == 1 && given(rule, line, settings) != null) {
                return rule;
            }
        }
        return NONE;
    }

    private List<Line> way(Line line, Settings settings) {
        List<Line> way = new ArrayList<>();
        way.add(line);
        int rule = ruleOf(line, settings);
        if (rule != NONE) {
            way.addAll(way(given(rule, line, settings), settings));
        }
        return way;
    }

    private Line origin(Line line, Settings settings) {
        List<Line> way = way(line, settings);
        return way.get(way.size() - 1);
    }

    private Line origin(int r, int k) {
        return origin(new Line(r, k), now);
    }

    int line(int r, int k, int what) {
        if (!isLine(r, k) || what < 0 || what > 6) {
            return BAD;
        }
        Line line = new Line(r, k);
        return switch (what) {
            case 0 -> lines(r).charAt(k);
            case 1, 2 -> pair(r, k, what - 1);
            case 3 -> ruleOf(line, now);
            case 4 -> origin(r, k).r;
            case 5 -> origin(r, k).k;
            default -> way(line, now).size() - 1;
        };
    }

    private void change(Settings to) {
        earlier.add(now);
        if (earlier.size() > 10) {
            earlier.remove(0);
        }
        now = to;
    }

    int blocks(int n) {
        if (n < 0 || n > 4) {
            return BAD;
        }
        int was = now.block;
        if (was == n) {
            return STATE;
        }
        change(new Settings(n, now.passed, now.rules));
        return was;
    }

    int passes(int r) {
        if (!isRevision(r)) {
            return BAD;
        }
        change(new Settings(now.block, now.passed ^ 1 << r, now.rules));
        return now.passed >> r & 1;
    }

    int rules(int rule) {
        if (rule < 0 || rule > 3) {
            return BAD;
        }
        change(new Settings(now.block, now.passed, now.rules ^ 1 << rule));
        return now.rules >> rule & 1;
    }

    int undo() {
        if (earlier.isEmpty()) {
            return STATE;
        }
        now = earlier.remove(earlier.size() - 1);
        return earlier.size();
    }

    int gives(int rule, int r, int k) {
        if (rule < 0 || rule > 3 || !isLine(r, k)) {
            return BAD;
        }
        Line given = given(rule, new Line(r, k), now);
        return given == null ? NONE : given.r * 8 + given.k;
    }

    int begun(int r, int from) {
        if (!isRevision(r) || !isRevision(from)) {
            return BAD;
        }
        int bits = 0;
        for (int k = 0; k < lines(r).length(); k++) {
            bits += origin(r, k).r == from ? 1 << k : 0;
        }
        return bits;
    }

    int age(int r, int k) {
        if (!isRevision(r) || k < 0) {
            return BAD;
        }
        List<int[]> rows = new ArrayList<>();
        for (int line = 0; line < lines(r).length(); line++) {
            rows.add(new int[] {origin(r, line).r, origin(r, line).k, line});
        }
        rows.sort(java.util.Arrays::compare);
        return k < rows.size() ? rows.get(k)[2] : NONE;
    }

    int like(int r, int k, int other) {
        if (!isLine(r, k) || !isRevision(other)) {
            return BAD;
        }
        int bits = 0;
        for (int line = 0; line < lines(other).length(); line++) {
            bits += origin(other, line).equals(origin(r, k)) ? 1 << line : 0;
        }
        return bits;
    }

    private boolean isOriginIn(Line line, int r) {
        for (int k = 0; k < lines(r).length(); k++) {
            if (origin(r, k).equals(line)) {
                return true;
            }
        }
        return false;
    }

    int carried(int r, int k) {
        if (!isLine(r, k)) {
            return BAD;
        }
        int bits = 0;
        for (int other = 0; other < revisions.size(); other++) {
            bits += isOriginIn(new Line(r, k), other) ? 1 << other : 0;
        }
        return bits;
    }

    int kept(int r, int other) {
        if (!isRevision(r) || !isRevision(other)) {
            return BAD;
        }
        int number = 0;
        for (int k = 0; k < lines(r).length(); k++) {
            Line line = new Line(r, k);
            number += origin(r, k).equals(line) && isOriginIn(line, other) ? 1 : 0;
        }
        return number;
    }

    int common(int r, int parent) {
        if (!isRevision(r) || parent < 0 || parent > 1) {
            return BAD;
        }
        return parent(r, parent) == NONE ? NONE : common(lines(parent(r, parent)), lines(r));
    }

    int sees(int r, int k, int from, int is) {
        if (!isLine(r, k) || !isRevision(from) || (is != 0 && is != 1)) {
            return BAD;
        }
        if (seen.size() == 6) {
            return FULL;
        }
        seen.add(new Sight(new Line(r, k), from, is == 1));
        return seen.size();
    }

    int forget() {
        int was = seen.size();
        seen.clear();
        return was;
    }

    int unseen() {
        int bits = 0;
        for (int r = 0; r < revisions.size(); r++) {
            Settings other = new Settings(now.block, now.passed ^ 1 << r, now.rules);
            boolean all = true;
            for (Sight sight : seen) {
                all = all && (origin(sight.line, other).r == sight.from) == sight.is;
            }
            bits += all ? 1 << r : 0;
        }
        return bits;
    }

    int keep(int image) {
        if (image != 0 && image != 1) {
            return BAD;
        }
        images[image] = now;
        return now.block;
    }

    int back(int image) {
        if (image != 0 && image != 1) {
            return BAD;
        }
        if (images[image] == null) {
            return STATE;
        }
        now = images[image];
        earlier.clear();
        return now.block;
    }

    int count(int what) {
        int all = 0;
        int own = 0;
        for (int r = 0; r < revisions.size(); r++) {
            for (int k = 0; k < lines(r).length(); k++) {
                all++;
                own += origin(r, k).equals(new Line(r, k)) ? 1 : 0;
            }
        }
        return switch (what) {
            case 0 -> revisions.size();
            case 1 -> now.block;
            case 2 -> now.passed;
            case 3 -> now.rules;
            case 4 -> all;
            case 5 -> own;
            case 6 -> seen.size();
            case 7 -> text.length();
            case 8 -> earlier.size();
            default -> BAD;
        };
    }
}
