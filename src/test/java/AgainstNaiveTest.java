import java.lang.reflect.InvocationTargetException;
import java.lang.reflect.Method;
import java.lang.reflect.Modifier;
import java.util.ArrayList;
import java.util.HashMap;
import java.util.List;
import java.util.Map;
import java.util.NoSuchElementException;
import java.util.Random;

/** Runs of drawn calls, of which each answer, the row and all counts must be as the slow model tells them. */
public final class AgainstNaiveTest {
    private static final int CALLS = 200;
    private final Map<String, Method> methods = new HashMap<>();
    private final List<String> names = new ArrayList<>();
    private final Random random;
    private final StringBuilder story = new StringBuilder();
    private ToOneCrumb real;
    private Naive naive;

    private AgainstNaiveTest(long seed) {
        random = new Random(seed);
        for (Method method : ToOneCrumb.class.getDeclaredMethods()) {
            if (Modifier.isPublic(method.getModifiers())) {
                methods.put(method.getName(), method);
                names.add(method.getName());
            }
        }
        names.sort(null);
    }

    public static void main(String[] args) throws ReflectiveOperationException {
        int runs = args.length > 0 ? Integer.parseInt(args[0]) : 250;
        int first = args.length > 1 ? Integer.parseInt(args[1]) : 0;
        for (int run = first; run < first + runs; run++) {
            if (!new AgainstNaiveTest(run).agree()) {
                System.exit(1);
            }
        }
        System.out.println("AgainstNaiveTest: " + runs + " runs agree");
    }

    private boolean agree() throws ReflectiveOperationException {
        real = new ToOneCrumb();
        naive = new Naive();
        boolean same = tell("loaf", loafText()) && tell("guests", guestsText());
        for (int n = 0; n < CALLS && same; n++) {
            same = step();
        }
        return same;
    }

    private boolean step() throws ReflectiveOperationException {
        String name = names.get(random.nextInt(names.size()));
        switch (name) {
            case "loaf":
                return random.nextInt(3) != 0 || tell(name, spoiled(loafText()));
            case "guests":
                return tell(name, spoiled(guestsText()));
            case "deeds":
                return tell(name, spoiled(deedsText()));
            case "rule":
                return tell(name, spoiled(ruleText(0)));
            case "supper":
                return tell(name, spoiled(supperText()));
            case "byturns":
                return tell(name, spoiled(turnsText()));
            case "lies":
                return tell(name, spoiled(turnsText()), around(naive.count(1)));
            case "claims":
                return tell(name, spoiled(claimsText()));
            case "stretch":
            case "quarrel":
                return random.nextInt(4) != 0 || compare(name);
            default:
                return compare(name, extreme(arguments(name)));
        }
    }

    private int[] extreme(int[] arguments) {
        if (arguments.length > 0 && below(25) == 0) {
            int[] values = {Integer.MIN_VALUE, Integer.MAX_VALUE, -1, 1 << 16, 1 << 31 | 1};
            arguments[below(arguments.length)] = values[below(values.length)];
        }
        return arguments;
    }

    private int around(int many) {
        return random.nextInt(8) == 0 ? random.nextInt(9) - 2 : random.nextInt(many + 1);
    }

    private int below(int n) {
        return random.nextInt(n);
    }

    private int[] arguments(String name) {
        int guests = naive.count(1);
        int cells = naive.count(0);
        int g = around(guests);
        int c = around(cells);
        int d = around(cells);
        return switch (name) {
            case "sign" -> new int[] {random.nextInt()};
            case "end" -> new int[] {below(3) == 0 ? 0 : below(84) - 2};
            case "cell" -> new int[] {c, below(6) - 1};
            case "guest" -> new int[] {g, below(10) - 1};
            case "worth" -> new int[] {g, c};
            case "taste" -> new int[] {g, below(5) - 1, below(12) - 1};
            case "sheet" -> below(4) == 0 ? new int[] {below(6) - 1, below(20) - 2, random.nextInt(), random.nextInt()}
                    : new int[] {below(4), below(17), below(600) - 20, below(5) - 2};
            case "give" -> new int[] {g, below(5) == 0 ? Math.max(c, d) : Math.min(c, d), Math.max(c, d)};
            case "back" -> new int[] {below(5) == 0 ? Math.max(c, d) : Math.min(c, d), Math.max(c, d)};
            case "mouse" -> new int[] {c};
            case "seen", "trade", "cuts" -> new int[] {g, around(guests)};
            case "pieces", "tastes", "offer" -> new int[] {g};
            case "slices" -> new int[] {below(5) == 0 ? below(70) - 3 : below(1 << guests)};
            case "richest" -> new int[] {g, around(cells + 1)};
            case "parts" -> new int[] {g, below(8)};
            case "chose" -> new int[] {c, d};
            case "settle" -> new int[] {below(1020) - 10, below(1020) - 10};
            case "ate" -> new int[] {below(6) == 0 ? below(12000) - 1000 : below(naive.count(5) + 2)};
            case "enough" -> new int[] {below(13) - 1, below(6) == 0 ? below(12000) - 1000 : below(naive.count(5) + 2)};
            case "wide" -> new int[] {below(13) - 1, below(104) - 2};
            case "suppers" -> new int[] {random.nextInt(), below(5) == 0 ? below(54) - 1 : below(5)};
            case "keep", "again" -> new int[] {below(5) - 1};
            case "count" -> new int[] {below(12) - 1};
            case "row" -> new int[] {below(18) - 1};
            default -> new int[0];
        };
    }

    // ---- texts

    private String spoiled(String text) {
        if (below(3) != 0) {
            return text;
        }
        StringBuilder changed = new StringBuilder(text);
        String signs = "abcdefghijkxymrp0123456789;,*-+/<>=() ";
        for (int n = below(2); n >= 0; n--) {
            int at = below(changed.length() + 1);
            char sign = below(4) == 0 ? (char) below(256) : signs.charAt(below(signs.length()));
            switch (below(4)) {
                case 0 -> changed.insert(at, sign);
                case 1 -> changed.setLength(at);
                case 2 -> changed.append(text);
                default -> {
                    if (at < changed.length()) {
                        changed.setCharAt(at, sign);
                    }
                }
            }
        }
        return changed.toString();
    }

    private String loafText() {
        StringBuilder text = new StringBuilder();
        for (int n = below(5) == 0 ? below(18) : 2 + below(10); n > 0; n--) {
            text.append(1 + below(9));
            text.append(below(2) == 0 ? "" : (char) ('a' + below(9)));
            text.append(below(3) == 0 ? "*" : "");
        }
        return text.toString();
    }

    private String joined(List<String> parts, String sign) {
        return String.join(sign, parts);
    }

    private String guestsText() {
        List<String> lines = new ArrayList<>();
        for (int n = below(4); n > 0; n--) {
            lines.add("" + below(10) + below(10) + below(10));
        }
        return joined(lines, ";");
    }

    private char letter() {
        return (char) ('a' + (below(12) == 0 ? below(7) : below(Math.max(1, naive.count(1)))));
    }

    private String deedsText() {
        List<String> lines = new ArrayList<>();
        for (int n = below(6) == 0 ? below(16) : below(6); n > 0; n--) {
            char kind = "fyxg".charAt(below(4));
            lines.add("" + kind + letter() + (kind == 'x' || kind == 'g' ? "" + letter() : "") + below(10));
        }
        return joined(lines, ";");
    }

    private String ruleText(int depth) {
        StringBuilder text = new StringBuilder();
        for (int n = below(depth == 0 ? 5 : 3); n >= 0; n--) {
            text.append("-".repeat(below(4) == 0 ? below(3) : 0));
            int kind = below(5);
            if (kind == 0 && depth < 5) {
                text.append('(').append(ruleText(depth + 1)).append(')');
            } else if (kind == 1) {
                text.append(below(below(3) == 0 ? 1000 : 10));
            } else {
                text.append("crkabdipe".charAt(below(9)));
            }
            if (n > 0) {
                text.append("+-*/+-*/<>=".charAt(below(11)));
            }
        }
        return text.toString();
    }

    private String supperText() {
        List<String> acts = new ArrayList<>();
        for (int n = below(6) == 0 ? below(20) : below(5); n > 0; n--) {
            int from = around(naive.count(0));
            int to = from + below(3);
            String slice = Math.max(from, 0) + "-" + Math.max(to, 0);
            acts.add(new String[] {"g" + letter() + slice, "b" + slice, "m" + Math.max(from, 0)}[below(3)]);
        }
        return joined(acts, ";");
    }

    private String turnsText() {
        StringBuilder text = new StringBuilder();
        for (int n = below(18); n > 0; n--) {
            text.append(letter());
        }
        return text.toString();
    }

    private String claimsText() {
        List<String> claims = new ArrayList<>();
        for (int n = below(7); n > 0; n--) {
            claims.add("" + letter() + below(below(3) == 0 ? 1000 : 60));
        }
        return joined(claims, ",");
    }

    // ---- calls on both

    private boolean tell(String name, String text, int... arguments) throws ReflectiveOperationException {
        boolean same = compare("end", 0);
        for (int i = 0; i < text.length() && same; i += 4) {
            int v = 0;
            for (int k = i; k < i + 4; k++) {
                v = v << 8 | (k < text.length() ? text.charAt(k) : 0);
            }
            same = compare("sign", v);
        }
        story.append("  text: ").append(text).append('\n');
        return same && compare("end", text.length()) && compare(name, arguments);
    }

    private boolean compare(String name, int... arguments) throws ReflectiveOperationException {
        StringBuilder call = new StringBuilder(name).append('(');
        Object[] values = new Object[arguments.length];
        for (int i = 0; i < arguments.length; i++) {
            values[i] = arguments[i];
            call.append(i > 0 ? ", " : "").append(arguments[i]);
        }
        call.append(')');
        long want = naive.call(name, arguments);
        long got = answer(methods.get(name), values);
        story.append(call).append(" -> ").append(got).append('\n');
        if (got != want || !sameState()) {
            System.out.println(story);
            System.out.println(call + " answered " + got + ", the slow model " + want + ", row " + naive.row);
            return false;
        }
        return true;
    }

    private long answer(Method method, Object... values) throws ReflectiveOperationException {
        try {
            Object got = method.invoke(real, values);
            return got instanceof Boolean b ? (b ? 1 : 0) : ((Number) got).longValue();
        } catch (InvocationTargetException e) {
            if (e.getCause() instanceof NoSuchElementException) {
                return Naive.THROWS;
            }
            System.out.println(story);
            throw e;
        }
    }

    private boolean sameState() {
        for (int what = 0; what < 10; what++) {
            if (real.count(what) != naive.count(what)) {
                System.out.println("count(" + what + ") answered " + real.count(what));
                return false;
            }
        }
        for (int i = 0; i < naive.row.size(); i++) {
            if (real.row(i) != naive.row.get(i)) {
                System.out.println("row(" + i + ") answered " + real.row(i));
                return false;
            }
        }
        for (int cell = 0; cell < naive.count(0); cell++) {
            for (int what = 0; what < 4; what++) {
                if (real.cell(cell, what) != naive.call("cell", cell, what)) {
                    System.out.println("cell(" + cell + ", " + what + ") answered " + real.cell(cell, what));
                    return false;
                }
            }
        }
        return true;
    }
}
