import java.util.ArrayList;
import java.util.Arrays;
import java.util.List;
import java.util.Set;
import java.util.TreeSet;
import java.util.regex.Matcher;
import java.util.regex.Pattern;

/**
 * The document once more, slowly and by other means (patterns for the texts, trying all orders and all partings),
 * so that the class can be compared with it. One generic call by name; a call that throws answers THROWS.
 */
final class Naive {
    static final long THROWS = Long.MIN_VALUE;

    private static final class Cell {
        int crumbs;
        int raisins;
        int crust;
        int holder = -1;
    }

    String text = "";
    List<Long> row = new ArrayList<>();
    private List<Cell> cells = new ArrayList<>();
    private final List<int[]> tastes = new ArrayList<>();
    private final List<Integer> deserts = new ArrayList<>();
    private final List<int[]> choices = new ArrayList<>();
    private final List<int[]> past = new ArrayList<>();
    private int[][] kept = new int[3][];
    private String rule = "";
    /** Worths that this call asked for already. */
    private Integer[][] known = new Integer[6][16];

    // ---- texts

    private String takeText() {
        String taken = text;
        text = "";
        return taken;
    }

    /** The first sign that can't stand, or -1 if the whole matches: the longest beginning that can still match. */
    private static int fault(Pattern pattern, String whole, int most) {
        String read = whole.substring(0, Math.min(most, whole.length()));
        for (int length = 1; length <= read.length(); length++) {
            Matcher matcher = pattern.matcher(read.substring(0, length));
            if (!matcher.matches() && !matcher.hitEnd()) {
                return length - 1;
            }
        }
        if (whole.length() > most) {
            return most;
        }
        return pattern.matcher(whole).matches() ? -1 : whole.length();
    }

    private static Pattern lines(String line) {
        return Pattern.compile("(" + line + ")(;(" + line + "))*+", Pattern.DOTALL);
    }

    private static Pattern rulePattern() {
        String expression = null;
        for (int depth = 0; depth <= 4; depth++) {
            String thing = "-*+([0-9]{1,3}+|[crkabdipe]" + (expression == null ? "" : "|\\(" + expression + "\\)") + ")";
            String sum = thing + "([-+*/]" + thing + ")*+";
            expression = "(" + sum + "([<>=]" + sum + ")?+)";
        }
        return Pattern.compile(expression, Pattern.DOTALL);
    }

    private static final Pattern RULE = rulePattern();
    private static final Pattern SUPPER =
            lines("g[a-f][0-9]{1,2}+-[0-9]{1,2}+|b[0-9]{1,2}+-[0-9]{1,2}+|m[0-9]{1,2}+");
    private static final Pattern LOAF = Pattern.compile("([1-9][a-i]?+\\*?+){0,16}+", Pattern.DOTALL);

    private String letters() {
        return tastes.isEmpty() ? "[^\\x00-\\xff]" : "[a-" + (char) ('a' + tastes.size() - 1) + "]";
    }

    private int loaf() {
        String told = takeText();
        int fault = fault(LOAF, told, 64);
        if (fault >= 0) {
            return -1 - fault;
        }
        cells = new ArrayList<>();
        for (char sign : told.toCharArray()) {
            if (sign >= '1' && sign <= '9') {
                cells.add(new Cell());
                cells.get(cells.size() - 1).crumbs = sign - '0';
            } else if (sign == '*') {
                cells.get(cells.size() - 1).crust = 1;
            } else {
                cells.get(cells.size() - 1).raisins = sign - 'a' + 1;
            }
        }
        choices.clear();
        past.clear();
        kept = new int[3][];
        return cells.size();
    }

    private int guests() {
        String told = takeText();
        if (told.isEmpty()) {
            return 0;
        }
        int room = 6 - tastes.size();
        if (room == 0) {
            return -1;
        }
        Pattern pattern = Pattern.compile("[0-9]{3}+(;[0-9]{3}+)*+", Pattern.DOTALL);
        int fault = fault(pattern, told, 23);
        // the first sign of the first line without room
        if ((fault < 0 ? told.length() : fault) >= 4 * room) {
            return -1 - Math.min(4 * room, 23);
        }
        if (fault >= 0) {
            return -1 - fault;
        }
        String[] parts = told.split(";");
        for (String part : parts) {
            tastes.add(new int[] {part.charAt(0) - '0', part.charAt(1) - '0', part.charAt(2) - '0'});
            deserts.add(1);
        }
        return parts.length;
    }

    private int deeds() {
        String told = takeText();
        String one = letters();
        String pair = "";
        for (char letter = 'a'; letter < 'a' + tastes.size(); letter++) {
            String others = "";
            for (char other = 'a'; other < 'a' + tastes.size(); other++) {
                others += other == letter ? "" : String.valueOf(other);
            }
            pair += (pair.isEmpty() ? "" : "|") + letter + (others.isEmpty() ? "[^\\x00-\\xff]" : "[" + others + "]");
        }
        pair = pair.isEmpty() ? "[^\\x00-\\xff]" : pair;
        int fault = told.isEmpty() ? -1 : fault(lines("[fy]" + one + "[0-9]|[xg](" + pair + ")[0-9]"), told, 60);
        if (fault >= 0) {
            return -1 - fault;
        }
        int[] sums = new int[6];
        for (String deed : told.isEmpty() ? new String[0] : told.split(";")) {
            int first = deed.charAt(1) - 'a';
            int much = deed.charAt(deed.length() - 1) - '0';
            switch (deed.charAt(0)) {
                case 'f' -> sums[first] += 3 * much;
                case 'y' -> sums[first] += 2 * much;
                case 'g' -> sums[first] += much;
                default -> {
                    sums[first] -= much;
                    sums[deed.charAt(2) - 'a'] += much;
                }
            }
        }
        for (int g = 0; g < tastes.size(); g++) {
            deserts.set(g, Math.max(0, sums[g]));
        }
        return allDeserts();
    }

    private int setRule() {
        String told = takeText();
        int fault = told.isEmpty() ? -1 : fault(RULE, told, 40);
        if (fault >= 0) {
            return -1 - fault;
        }
        rule = told;
        return 0;
    }

    // ---- worths

    /** Reads the rule anew each time, splitting it at the sign that binds least and stands last. */
    private int value(String e, int g, int c, int[] likes) {
        for (String signs : new String[] {"<>=", "+-", "*/"}) {
            int nested = 0;
            for (int at = e.length() - 1; at > 0; at--) {
                char sign = e.charAt(at);
                nested += sign == ')' ? 1 : sign == '(' ? -1 : 0;
                boolean two = "0123456789crkabdipe)".indexOf(e.charAt(at - 1)) >= 0;
                if (nested == 0 && two && signs.indexOf(sign) >= 0) {
                    int left = value(e.substring(0, at), g, c, likes);
                    int right = value(e.substring(at + 1), g, c, likes);
                    return switch (sign) {
                        case '<' -> left < right ? 1 : 0;
                        case '>' -> left > right ? 1 : 0;
                        case '=' -> left == right ? 1 : 0;
                        case '+' -> left + right;
                        case '-' -> left - right;
                        case '*' -> left * right;
                        default -> right == 0 ? 0 : left / right;
                    };
                }
            }
        }
        if (e.startsWith("-")) {
            return -value(e.substring(1), g, c, likes);
        }
        if (e.startsWith("(")) {
            return value(e.substring(1, e.length() - 1), g, c, likes);
        }
        Cell cell = cells.get(c);
        return switch (e) {
            case "c" -> cell.crumbs;
            case "r" -> cell.raisins;
            case "k" -> cell.crust;
            case "a" -> likes[0];
            case "b" -> likes[1];
            case "d" -> likes[2];
            case "i" -> g;
            case "p" -> c;
            case "e" -> c == 0 || c == cells.size() - 1 ? 1 : 0;
            default -> Integer.parseInt(e);
        };
    }

    private int worth(int g, int c, int[] likes) {
        int v = value(rule.isEmpty() ? "c*a+r*b+k*d" : rule, g, c, likes);
        return v < 0 ? 0 : v > 999 ? 999 : v;
    }

    private int worth(int g, int c) {
        if (known[g][c] == null) {
            known[g][c] = worth(g, c, tastes.get(g));
        }
        return known[g][c];
    }

    private int sum(int g, int from, int to) {
        int sum = 0;
        for (int c = from; c < to; c++) {
            sum += worth(g, c);
        }
        return sum;
    }

    private int whole(int g) {
        return sum(g, 0, cells.size());
    }

    private int held(int g, int holder) {
        int sum = 0;
        for (int c = 0; c < cells.size(); c++) {
            sum += cells.get(c).holder == holder ? worth(g, c) : 0;
        }
        return sum;
    }

    private int allDeserts() {
        return deserts.stream().mapToInt(Integer::intValue).sum();
    }

    private boolean isGuest(int g) {
        return g >= 0 && g < tastes.size();
    }

    private boolean isCell(int c) {
        return c >= 0 && c < cells.size();
    }

    private boolean due(int g, long worth, int percent) {
        return worth * allDeserts() * 100 >= (long) deserts.get(g) * whole(g) * percent;
    }

    private void tell(long... numbers) {
        row = new ArrayList<>();
        for (long number : numbers) {
            row.add(number);
        }
    }

    private void tellFraction(long upper, long lower) {
        for (long d = lower; d >= 1; d--) {
            if (upper % d == 0 && lower % d == 0) {
                tell(upper / d, lower / d);
                return;
            }
        }
    }

    // ---- slices

    private int[] holders() {
        return cells.stream().mapToInt(c -> c.holder).toArray();
    }

    private void setHolders(int[] holders) {
        for (int c = 0; c < holders.length; c++) {
            cells.get(c).holder = holders[c];
        }
    }

    private int act(char kind, int g, int from, int to) {
        if (kind == 'g' && !isGuest(g) || !isCell(from) || !isCell(to) || from > to) {
            return -1;
        }
        int answer = 0;
        for (int c = from; c <= to; c++) {
            if (kind != 'b' && cells.get(c).holder != -1) {
                return -2;
            }
        }
        for (int c = from; c <= to; c++) {
            Cell cell = cells.get(c);
            if (kind == 'g') {
                answer += worth(g, c);
                cell.holder = g;
            } else if (kind == 'm') {
                answer += cell.crumbs;
                cell.holder = 9;
            } else if (cell.holder >= 0 && cell.holder < 6) {
                answer++;
                cell.holder = -1;
            }
        }
        return answer;
    }

    private void remember(int[] before) {
        past.add(before);
        if (past.size() > 15) {
            past.remove(0);
        }
    }

    private int actAlone(char kind, int g, int from, int to) {
        int[] before = holders();
        int answer = act(kind, g, from, to);
        if (answer >= 0) {
            remember(before);
        }
        return answer;
    }

    private int onBoard(int holder) {
        return (int) cells.stream().filter(c -> c.holder == holder).count();
    }

    private int supper() {
        String told = takeText();
        int fault = told.isEmpty() ? -1 : fault(SUPPER, told, 60);
        if (fault >= 0) {
            return -1 - fault;
        }
        int[] before = holders();
        int done = 0;
        boolean refused = false;
        for (String a : told.isEmpty() ? new String[0] : told.split(";")) {
            char kind = a.charAt(0);
            String[] numbers = a.substring(kind == 'g' ? 2 : 1).split("-");
            int from = Integer.parseInt(numbers[0]);
            int to = kind == 'm' ? from : Integer.parseInt(numbers[1]);
            if (act(kind, kind == 'g' ? a.charAt(1) - 'a' : 0, from, to) < 0) {
                refused = true;
                break;
            }
            done++;
        }
        if (done > 0) {
            remember(before);
        }
        tell(refused ? 1 : 0, onBoard(-1));
        return done;
    }

    private int undo() {
        if (past.isEmpty()) {
            return -1;
        }
        setHolders(past.remove(past.size() - 1));
        return past.size();
    }

    // ---- who has what

    private int envy() {
        int pairs = 0;
        tell();
        for (int g = 0; g < tastes.size(); g++) {
            for (int o = 0; o < tastes.size(); o++) {
                if (g != o && held(g, o) > held(g, g)) {
                    if (pairs++ == 0) {
                        tell(g, o);
                    }
                }
            }
        }
        return pairs;
    }

    private int wronged() {
        int bits = 0;
        for (int g = 0; g < tastes.size(); g++) {
            bits += due(g, held(g, g), 100) ? 0 : 1 << g;
        }
        int cuts = 0;
        int[] holders = holders();
        for (int c = 0; c + 1 < holders.length; c++) {
            cuts += holders[c] == holders[c + 1] ? 0 : 1;
        }
        tell(Integer.bitCount(bits), cuts);
        return bits;
    }

    private int happiest() {
        if (tastes.isEmpty()) {
            return -2;
        }
        int best = 0;
        for (int g = 1; g < tastes.size(); g++) {
            long mine = (long) held(g, g) * Math.max(1, whole(best));
            if (mine > (long) held(best, best) * Math.max(1, whole(g))) {
                best = g;
            }
        }
        tellFraction(held(best, best), Math.max(1, whole(best)));
        return best;
    }

    private int pieces(int g) {
        if (!isGuest(g)) {
            return -1;
        }
        String has = "";
        for (int holder : holders()) {
            has += holder == g ? "x" : " ";
        }
        int many = 0;
        int longest = 0;
        for (String piece : has.trim().split(" +")) {
            many += piece.isEmpty() ? 0 : 1;
            longest = Math.max(longest, piece.length());
        }
        tell(longest == 0 ? -1 : has.indexOf("x".repeat(longest)), longest);
        return many;
    }

    private int trade(int g, int o) {
        if (!isGuest(g) || !isGuest(o) || g == o) {
            return -1;
        }
        int pairs = 0;
        int most = 0;
        tell();
        for (int x = 0; x < cells.size(); x++) {
            for (int y = 0; y < cells.size(); y++) {
                if (cells.get(x).holder == g && cells.get(y).holder == o) {
                    int mine = worth(g, y) - worth(g, x);
                    int theirs = worth(o, x) - worth(o, y);
                    if (mine > 0 && theirs > 0) {
                        pairs++;
                        if (mine + theirs > most) {
                            most = mine + theirs;
                            tell(x, y);
                        }
                    }
                }
            }
        }
        return pairs;
    }

    // ---- fair slices

    private static List<List<Integer>> orders(List<Integer> members) {
        List<List<Integer>> all = new ArrayList<>();
        if (members.isEmpty()) {
            all.add(new ArrayList<>());
        }
        for (Integer first : members) {
            List<Integer> rest = new ArrayList<>(members);
            rest.remove(first);
            for (List<Integer> order : orders(rest)) {
                order.add(0, first);
                all.add(order);
            }
        }
        return all;
    }

    private static List<Integer> members(int bits) {
        List<Integer> members = new ArrayList<>();
        for (int g = 0; g < 6; g++) {
            if ((bits >> g & 1) != 0) {
                members.add(g);
            }
        }
        return members;
    }

    private static int compare(List<Long> a, List<Long> b) {
        for (int i = 0; i < a.size() && i < b.size(); i++) {
            if (!a.get(i).equals(b.get(i))) {
                return a.get(i) < b.get(i) ? -1 : 1;
            }
        }
        return a.size() - b.size();
    }

    /** The fewest cells, or -2; the row in best. */
    private int serve(int bits, int percent, List<Long> best) {
        boolean[][][] enough = new boolean[6][cells.size() + 1][cells.size() + 1];
        for (int g : members(bits)) {
            for (int from = 0; from <= cells.size(); from++) {
                for (int to = from; to <= cells.size(); to++) {
                    enough[g][from][to] = due(g, sum(g, from, to), percent);
                }
            }
        }
        int fewest = -2;
        for (List<Integer> order : orders(members(bits))) {
            List<Long> told = new ArrayList<>();
            int from = 0;
            for (int g : order) {
                int to = from;
                while (to <= cells.size() && !enough[g][from][to]) {
                    to++;
                }
                if (to > cells.size()) {
                    from = -1;
                    break;
                }
                told.add((long) g);
                told.add(to == from ? -1L : to - 1L);
                from = to;
            }
            if (from >= 0 && (fewest < 0 || from < fewest || from == fewest && compare(told, best) < 0)) {
                fewest = from;
                best.clear();
                best.addAll(told);
            }
        }
        return fewest;
    }

    private int slices(int bits) {
        if (bits < 0 || bits >= 1 << tastes.size()) {
            return -1;
        }
        List<Long> best = new ArrayList<>();
        int answer = serve(bits, 100, best);
        if (answer >= 0) {
            row = best;
        }
        return answer;
    }

    private int quarrel() {
        for (int many = 0; many <= tastes.size(); many++) {
            for (int bits = 0; bits < 1 << tastes.size(); bits++) {
                if (Integer.bitCount(bits) == many && serve(bits, 100, new ArrayList<>()) < 0) {
                    tell(many);
                    return bits;
                }
            }
        }
        return -2;
    }

    private int stretch() {
        if (tastes.isEmpty()) {
            return -2;
        }
        int v = 0;
        while (v < 200 && serve((1 << tastes.size()) - 1, v + 1, new ArrayList<>()) >= 0) {
            v++;
        }
        return v;
    }

    private int richest(int g, int n) {
        if (!isGuest(g) || n < 1 || n > cells.size()) {
            return -1;
        }
        int best = -1;
        int most = -1;
        for (int from = 0; from + n <= cells.size(); from++) {
            if (sum(g, from, from + n) > most) {
                most = sum(g, from, from + n);
                best = from;
            }
        }
        tell(most);
        return best;
    }

    private int parts(int g, int n) {
        if (!isGuest(g) || n < 1 || n > 6) {
            return -1;
        }
        if (cells.size() < n) {
            return -2;
        }
        int most = -1;
        int[] own = new int[cells.size()];
        for (int c = 0; c < own.length; c++) {
            own[c] = worth(g, c);
        }
        // a bit at c: a part ends with cell c
        for (int bits = 0; bits < 1 << cells.size() - 1; bits++) {
            if (Integer.bitCount(bits) != n - 1) {
                continue;
            }
            List<Long> ends = new ArrayList<>();
            int least = Integer.MAX_VALUE;
            int sum = 0;
            for (int c = 0; c < own.length; c++) {
                sum += own[c];
                if ((bits >> c & 1) != 0 || c == own.length - 1) {
                    least = Math.min(least, sum);
                    ends.add((long) c);
                    sum = 0;
                }
            }
            if (least > most || least == most && compare(ends, row) < 0) {
                most = least;
                row = ends;
            }
        }
        return most;
    }

    private int calm() {
        if (tastes.size() > 4) {
            return -3;
        }
        if (tastes.isEmpty()) {
            return -2;
        }
        int n = cells.size();
        int many = tastes.size();
        int[][] ahead = new int[many][n + 1];
        for (int g = 0; g < many; g++) {
            for (int c = 0; c <= n; c++) {
                ahead[g][c] = sum(g, 0, c);
            }
        }
        Set<String> ways = new TreeSet<>();
        for (List<Integer> order : orders(members((1 << many) - 1))) {
            tryCuts(order, new int[many + 1], 1, ahead, ways);
        }
        tell();
        if (!ways.isEmpty()) {
            for (char sign : ways.iterator().next().toCharArray()) {
                row.add((long) (sign - '0'));
            }
        }
        return ways.size();
    }

    private void tryCuts(List<Integer> order, int[] cuts, int next, int[][] ahead, Set<String> ways) {
        int n = cells.size();
        if (next == order.size()) {
            cuts[next] = n;
            StringBuilder way = new StringBuilder();
            for (int i = 0; i < order.size(); i++) {
                int g = order.get(i);
                way.append(String.valueOf((char) ('0' + g)).repeat(cuts[i + 1] - cuts[i]));
                for (int j = 0; j < order.size(); j++) {
                    if (ahead[g][cuts[j + 1]] - ahead[g][cuts[j]] > ahead[g][cuts[i + 1]] - ahead[g][cuts[i]]) {
                        return;
                    }
                }
            }
            ways.add(way.toString());
            return;
        }
        for (int cut = cuts[next - 1]; cut <= n; cut++) {
            cuts[next] = cut;
            tryCuts(order, cuts, next + 1, ahead, ways);
        }
    }

    // ---- cutting and choosing

    private int cuts(int g, int o) {
        if (!isGuest(g) || !isGuest(o) || g == o || cells.isEmpty()) {
            return -1;
        }
        int n = cells.size();
        int best = 0;
        for (int c = 0; c <= n; c++) {
            if (Math.abs(sum(g, 0, c) - sum(g, c, n)) < Math.abs(sum(g, 0, best) - sum(g, best, n))) {
                best = c;
            }
        }
        if (sum(o, best, n) > sum(o, 0, best)) {
            tell(sum(g, 0, best), sum(o, best, n), 1);
        } else {
            tell(sum(g, best, n), sum(o, 0, best), 0);
        }
        return best;
    }

    /** What each has by its own worths and, last, how many cells were taken; the liar chooses by other tastes. */
    private int[] takeTurns(List<Integer> turns, int liar, int[] lie) {
        int[] has = new int[tastes.size() + 1];
        Set<Integer> left = new TreeSet<>();
        for (int c = 0; c < cells.size(); c++) {
            left.add(c);
        }
        for (int g : turns) {
            int best = -1;
            int most = -1;
            for (int c : left) {
                int told = worth(g, c, g == liar ? lie : tastes.get(g));
                if (told > most) {
                    most = told;
                    best = c;
                }
            }
            if (best >= 0) {
                left.remove(best);
                has[g] += worth(g, best);
                has[tastes.size()]++;
            }
        }
        return has;
    }

    private int turnFault(String told) {
        return fault(Pattern.compile(letters() + "{1,16}+", Pattern.DOTALL), told, 16);
    }

    private static List<Integer> turns(String told) {
        List<Integer> turns = new ArrayList<>();
        for (char sign : told.toCharArray()) {
            turns.add(sign - 'a');
        }
        return turns;
    }

    private int byturns() {
        String told = takeText();
        int fault = turnFault(told);
        if (fault >= 0) {
            return -1 - fault;
        }
        int[] has = takeTurns(turns(told), -1, null);
        tell();
        for (int g = 0; g < tastes.size(); g++) {
            row.add((long) has[g]);
        }
        return has[tastes.size()];
    }

    private int lies(int g) {
        String told = takeText();
        if (!isGuest(g)) {
            return -100;
        }
        int fault = turnFault(told);
        if (fault >= 0) {
            return -1 - fault;
        }
        int honest = takeTurns(turns(told), -1, null)[g];
        int most = 0;
        tell();
        for (int t = 0; t < 3; t++) {
            for (int v = 0; v < 10; v++) {
                int[] lie = tastes.get(g).clone();
                lie[t] = v;
                int gain = takeTurns(turns(told), g, lie)[g] - honest;
                if (gain > most) {
                    most = gain;
                    tell(t, v);
                }
            }
        }
        return most;
    }

    // ---- tastes by choices

    private int chose(int c, int o) {
        if (!isCell(c) || !isCell(o) || c == o || choices.size() == 12) {
            return -1;
        }
        choices.add(new int[] {c, o});
        return choices.size();
    }

    private List<int[]> fitting(int g) {
        List<int[]> fitting = new ArrayList<>();
        for (int a = 0; a < 10; a++) {
            for (int b = 0; b < 10; b++) {
                for (int d = 0; d < 10; d++) {
                    int[] likes = {a, b, d};
                    if (choices.stream().allMatch(c -> worth(g, c[0], likes) >= worth(g, c[1], likes))) {
                        fitting.add(likes);
                    }
                }
            }
        }
        return fitting;
    }

    private int tastes(int g) {
        if (!isGuest(g)) {
            return -1;
        }
        List<int[]> fitting = fitting(g);
        tell();
        int least = Integer.MAX_VALUE;
        for (int[] likes : fitting) {
            int sum = Arrays.stream(likes).sum();
            if (sum < least) {
                least = sum;
                tell(likes[0], likes[1], likes[2]);
            }
        }
        return fitting.size();
    }

    private int offer(int g) {
        if (!isGuest(g)) {
            return -1;
        }
        if (cells.size() < 2) {
            return -2;
        }
        List<int[]> worths = new ArrayList<>();
        for (int[] likes : fitting(g)) {
            int[] each = new int[cells.size()];
            for (int c = 0; c < each.length; c++) {
                each[c] = worth(g, c, likes);
            }
            worths.add(each);
        }
        int best = -1;
        long fewest = Long.MAX_VALUE;
        for (int x = 0; x < cells.size(); x++) {
            for (int y = x + 1; y < cells.size(); y++) {
                int one = x;
                int other = y;
                long first = worths.stream().filter(w -> w[one] >= w[other]).count();
                long second = worths.stream().filter(w -> w[other] >= w[one]).count();
                if (Math.max(first, second) < fewest) {
                    fewest = Math.max(first, second);
                    best = 16 * x + y;
                }
            }
        }
        tell(fewest);
        return best;
    }

    // ---- claims, lines, remainders

    private int claims() {
        String told = takeText();
        String claim = letters() + "[0-9]{1,3}+";
        Pattern pattern = Pattern.compile(claim + "(," + claim + "){0,5}+,?+", Pattern.DOTALL);
        int fault = fault(pattern, told, 80);
        if (fault < 0 && told.endsWith(",")) {
            fault = told.length();
        }
        if (fault >= 0) {
            return -1 - fault;
        }
        String[] each = told.split(",");
        int best = 0;
        int fewest = 0;
        for (int bits = 1; bits < 1 << each.length; bits++) {
            int taken = meet(bits, each);
            if (taken >= 0 && Integer.bitCount(bits) > Integer.bitCount(best)) {
                best = bits;
                fewest = taken;
            }
        }
        tell(Integer.bitCount(best), fewest);
        return best;
    }

    private int meet(int bits, String[] each) {
        int fewest = -1;
        for (List<Integer> order : orders(members(bits))) {
            int at = 0;
            for (int claim : order) {
                int g = each[claim].charAt(0) - 'a';
                int wanted = Integer.parseInt(each[claim].substring(1));
                int sum = 0;
                while (at <= cells.size() && sum < wanted) {
                    sum += at < cells.size() ? worth(g, at) : 0;
                    at++;
                }
            }
            if (at <= cells.size() && (fewest < 0 || at < fewest)) {
                fewest = at;
            }
        }
        return fewest;
    }

    private int settle(int p, int q) {
        if (p < 0 || p > 999 || q < 0 || q > 999) {
            return -1;
        }
        int[] at = {p, q};
        int moves = 0;
        while (Math.abs(at[0] - at[1]) > 1) {
            int lower = at[0] < at[1] ? 0 : 1;
            at[lower] += Math.abs(at[0] - at[1]) / 3 + 1;
            at[1 - lower] -= Math.abs(at[0] - at[1]) / 3 + 1;
            moves++;
        }
        tell(at[1], moves);
        return at[0];
    }

    private int nothing() {
        int crumbs = cells.stream().mapToInt(c -> c.crumbs).sum();
        if (allDeserts() == 0) {
            return -2;
        }
        for (int baked = 0; baked <= 999; baked++) {
            int all = crumbs + baked;
            if (deserts.stream().allMatch(d -> all * d % allDeserts() == 0)) {
                tell();
                deserts.forEach(d -> row.add((long) all * d / allDeserts()));
                return baked;
            }
        }
        return -2;
    }

    private int desertsOf(int bits) {
        return members(bits).stream().mapToInt(deserts::get).sum();
    }

    private int ate(int v) {
        if (v < 0 || v > 9999) {
            return -1;
        }
        List<Integer> sets = new ArrayList<>();
        for (int bits = 0; bits < 1 << tastes.size(); bits++) {
            if (desertsOf(bits) == v) {
                sets.add(bits);
            }
        }
        int inAll = sets.stream().reduce((a, b) -> a & b).orElse(0);
        int smallest = sets.stream().min((a, b) -> Integer.bitCount(a) != Integer.bitCount(b)
                ? Integer.bitCount(a) - Integer.bitCount(b) : a - b).orElse(-1);
        tell(smallest, inAll);
        return sets.size();
    }

    // ---- guests by chance

    private long chance(int p, int v) {
        long[] bySum = new long[1000];
        bySum[0] = 1;
        for (int d : deserts) {
            long[] next = new long[1000];
            for (int s = 0; s < 1000; s++) {
                next[s] += bySum[s] * (10 - p);
                if (s + d < 1000) {
                    next[s + d] += bySum[s] * p;
                }
            }
            bySum = next;
        }
        return Arrays.stream(bySum, 0, Math.min(v, 999) + 1).sum();
    }

    private long tens() {
        return Long.parseLong("1" + "0".repeat(tastes.size()));
    }

    private int enough(int p, int v) {
        if (p < 0 || p > 10 || v < 0 || v > 9999) {
            return -1;
        }
        tellFraction(chance(p, v), tens());
        return 0;
    }

    private int wide(int p, int n) {
        if (p < 0 || p > 10 || n < 0 || n > 100) {
            return -1;
        }
        int v = 0;
        while (chance(p, v) * 100 < n * tens()) {
            v++;
        }
        return v;
    }

    private int suppers(int seed, int n) {
        if (n < 1 || n > 50 || tastes.isEmpty()) {
            return -1;
        }
        int r = seed;
        long[] has = new long[tastes.size()];
        for (int s = 0; s < n; s++) {
            List<Integer> turns = new ArrayList<>();
            for (int c = 0; c < cells.size(); c++) {
                r = r * 1103515245 + 12345;
                turns.add((int) ((r & 0xffffffffL) / 65536 % tastes.size()));
            }
            int[] once = takeTurns(turns, -1, null);
            for (int g = 0; g < has.length; g++) {
                has[g] += once[g];
            }
        }
        tell(has);
        int best = 0;
        for (int g = 0; g < has.length; g++) {
            best = has[g] > has[best] ? g : best;
        }
        return best;
    }

    // ---- kept, and the calls by name

    private boolean keep(int i) {
        if (i < 0 || i > 2) {
            return false;
        }
        kept[i] = holders();
        return true;
    }

    private boolean again(int i) {
        if (i < 0 || i > 2 || kept[i] == null) {
            return false;
        }
        setHolders(kept[i]);
        past.clear();
        return true;
    }

    int count(int what) {
        return switch (what) {
            case 0 -> cells.size();
            case 1 -> tastes.size();
            case 2 -> onBoard(-1);
            case 3 -> onBoard(9);
            case 4 -> cells.stream().mapToInt(c -> c.crumbs).sum();
            case 5 -> allDeserts();
            case 6 -> choices.size();
            case 7 -> past.size();
            case 8 -> row.size();
            case 9 -> text.length();
            default -> -100;
        };
    }

    private int sign(int v) {
        if (text.length() + 4 > 80) {
            return -1;
        }
        for (int shift = 24; shift >= 0; shift -= 8) {
            text += (char) (v >> shift & 255);
        }
        return text.length();
    }

    private boolean end(int n) {
        if (n < 0 || n > text.length()) {
            return false;
        }
        text = text.substring(0, n);
        return true;
    }

    private long cell(int c, int what) {
        if (!isCell(c) || what < 0 || what > 3) {
            return THROWS;
        }
        Cell cell = cells.get(c);
        return new int[] {cell.crumbs, cell.raisins, cell.crust, cell.holder}[what];
    }

    private long guest(int g, int what) {
        if (!isGuest(g) || what < 0 || what > 7) {
            return THROWS;
        }
        if (what < 3) {
            return tastes.get(g)[what];
        }
        return new int[] {deserts.get(g), onBoard(g), held(g, g), whole(g), due(g, held(g, g), 100) ? 1 : 0}[what - 3];
    }

    private int taste(int g, int what, int v) {
        if (!isGuest(g) || what < 0 || what > 2 || v < 0 || v > 9) {
            return -1;
        }
        int was = tastes.get(g)[what];
        tastes.get(g)[what] = v;
        return was;
    }

    private int sheet(int kind, int n, int f, int step) {
        if (kind < 0 || kind > 3 || n > 16) {
            return -1;
        }
        if (kind < 3 && n < 0) {
            return -2;
        }
        cells.forEach(c -> c.raisins = 0);
        if (kind == 3) {
            return -3;
        }
        int entry = f;
        for (int c = 0; c < n && c < cells.size(); c++) {
            int v = kind == 0 ? (byte) entry : kind == 1 ? (short) entry : entry;
            cells.get(c).raisins = v < 0 ? 0 : v > 9 ? 9 : v;
            entry += step;
        }
        return cells.stream().mapToInt(c -> c.raisins).sum();
    }

    private static long bit(boolean b) {
        return b ? 1 : 0;
    }

    long call(String name, int... a) {
        known = new Integer[6][16];
        return switch (name) {
            case "sign" -> sign(a[0]);
            case "end" -> bit(end(a[0]));
            case "loaf" -> loaf();
            case "guests" -> guests();
            case "deeds" -> deeds();
            case "rule" -> setRule();
            case "cell" -> cell(a[0], a[1]);
            case "guest" -> guest(a[0], a[1]);
            case "worth" -> isGuest(a[0]) && isCell(a[1]) ? worth(a[0], a[1]) : -1;
            case "taste" -> taste(a[0], a[1], a[2]);
            case "sheet" -> sheet(a[0], a[1], a[2], a[3]);
            case "give" -> actAlone('g', a[0], a[1], a[2]);
            case "back" -> actAlone('b', 0, a[0], a[1]);
            case "mouse" -> actAlone('m', 0, a[0], a[0]);
            case "supper" -> supper();
            case "undo" -> undo();
            case "seen" -> isGuest(a[0]) && isGuest(a[1]) ? held(a[0], a[1]) : -1;
            case "envy" -> envy();
            case "wronged" -> wronged();
            case "happiest" -> happiest();
            case "pieces" -> pieces(a[0]);
            case "trade" -> trade(a[0], a[1]);
            case "slices" -> slices(a[0]);
            case "quarrel" -> quarrel();
            case "stretch" -> stretch();
            case "richest" -> richest(a[0], a[1]);
            case "parts" -> parts(a[0], a[1]);
            case "calm" -> calm();
            default -> callOn(name, a);
        };
    }

    private long callOn(String name, int... a) {
        return switch (name) {
            case "cuts" -> cuts(a[0], a[1]);
            case "byturns" -> byturns();
            case "lies" -> lies(a[0]);
            case "chose" -> chose(a[0], a[1]);
            case "forget" -> {
                int many = choices.size();
                choices.clear();
                yield many;
            }
            case "tastes" -> tastes(a[0]);
            case "offer" -> offer(a[0]);
            case "claims" -> claims();
            case "settle" -> settle(a[0], a[1]);
            case "nothing" -> nothing();
            case "ate" -> ate(a[0]);
            case "enough" -> enough(a[0], a[1]);
            case "wide" -> wide(a[0], a[1]);
            case "suppers" -> suppers(a[0], a[1]);
            case "keep" -> bit(keep(a[0]));
            case "again" -> bit(again(a[0]));
            case "count" -> count(a[0]);
            case "row" -> a[0] >= 0 && a[0] < row.size() ? row.get(a[0]) : THROWS;
            default -> throw new IllegalArgumentException(name);
        };
    }
}
