import java.util.ArrayList;
import java.util.List;
import java.util.NoSuchElementException;

/** Terms 2: refused calls change nothing but THE TEXT, and that only if they read it; the ROW stays. */
public final class RefusedTest {
    private static final String LOAF = "3a2b1*4*5";
    private static final String WAITING = "9i*8";
    private static final int[] NOT_GUESTS = {-1, 3, 6, 32, Integer.MIN_VALUE, Integer.MAX_VALUE};
    private static final int[] NOT_CELLS = {-1, 5, 16, 32, Integer.MIN_VALUE, Integer.MAX_VALUE};

    private static ToOneCrumb x;
    private static String before;

    public static void main(String[] args) {
        wholeTable();
        wrongGuests();
        wrongCells();
        wrongNumbers();
        noAnswers();
        Check.due("2: THE TEXT stands as it was told", x.loaf(), 2);
        wrongTexts();
        textsThatAreNotRead();
        Check.finish("RefusedTest");
    }

    /** Three guests, five cells, something given, told, kept, to be undone; a row and a text. */
    private static void wholeTable() {
        x = Check.table(LOAF, "100;010;111", "fa1;yb1;gca4");
        Check.say(x, "c*a+r*b+k*d+p").rule();
        x.give(1, 0, 1);
        x.mouse(2);
        x.keep(1);
        x.give(0, 4, 4);
        x.chose(3, 0);
        x.byturns();
        x.suppers(1, 1);
        Check.say(x, WAITING);
        before = state(x);
    }

    /** All that can be asked without a change. */
    private static String state(ToOneCrumb x) {
        StringBuilder all = new StringBuilder();
        for (int what = 0; what < 10; what++) {
            all.append(x.count(what)).append(' ');
        }
        for (int i = 0; i < x.count(8); i++) {
            all.append("row ").append(x.row(i)).append(' ');
        }
        for (int cell = 0; cell < x.count(0); cell++) {
            for (int what = 0; what < 4; what++) {
                all.append(x.cell(cell, what)).append(' ');
            }
            for (int guest = 0; guest < x.count(1); guest++) {
                all.append(x.worth(guest, cell)).append(' ');
            }
        }
        for (int guest = 0; guest < x.count(1); guest++) {
            for (int what = 0; what < 8; what++) {
                all.append(x.guest(guest, what)).append(' ');
            }
        }
        return all.toString();
    }

    private static void refused(String call, long got, long want) {
        Check.due(call, got, want);
        Check.due(call + " changes nothing", state(x).equals(before), true);
    }

    private static void refused(String call, boolean got) {
        refused(call, got ? 1 : 0, 0);
    }

    private static void wrongGuests() {
        for (int g : NOT_GUESTS) {
            refused("10: worth of " + g, x.worth(g, 0), -1);
            refused("11: taste of " + g, x.taste(g, 0, 5), -1);
            refused("13: give to " + g, x.give(g, 3, 3), -1);
            refused("18: seen by " + g, x.seen(g, 0), -1);
            refused("18: seen of " + g, x.seen(0, g), -1);
            refused("22: pieces of " + g, x.pieces(g), -1);
            refused("23: trade of " + g, x.trade(g, 0), -1);
            refused("23: trade with " + g, x.trade(0, g), -1);
            refused("27: richest of " + g, x.richest(g, 1), -1);
            refused("28: parts of " + g, x.parts(g, 1), -1);
            refused("30: cuts by " + g, x.cuts(g, 0), -1);
            refused("30: cuts for " + g, x.cuts(0, g), -1);
            refused("35: tastes of " + g, x.tastes(g), -1);
            refused("36: offer to " + g, x.offer(g), -1);
            dueThrown("9: guest " + g, false, g, 0);
        }
        for (int g = 0; g < 3; g++) {
            refused("23: trade with itself", x.trade(g, g), -1);
            refused("30: cuts for itself", x.cuts(g, g), -1);
        }
    }

    private static void wrongCells() {
        for (int c : NOT_CELLS) {
            refused("10: worth of cell " + c, x.worth(0, c), -1);
            refused("13: give from " + c, x.give(0, c, 3), -1);
            refused("13: give to cell " + c, x.give(0, 3, c), -1);
            refused("14: back from " + c, x.back(c, 1), -1);
            refused("14: back to " + c, x.back(0, c), -1);
            refused("15: mouse " + c, x.mouse(c), -1);
            refused("33: chose " + c, x.chose(c, 0), -1);
            refused("33: chose before " + c, x.chose(0, c), -1);
            dueThrown("8: cell " + c, true, c, 0);
        }
        for (int c = 0; c < 5; c++) {
            refused("33: chose like ones", x.chose(c, c), -1);
            if (c != 3) {
                refused("13: give what is not on the board", x.give(2, Math.min(c, 3), Math.max(c, 3)), -2);
                refused("15: mouse of what is not on the board", x.mouse(c), -2);
            }
            if (c < 4) {
                refused("14: back, from behind to", x.back(c + 1, c), -1);
                refused("13: give, from behind to", x.give(2, c + 1, c), -1);
            }
        }
    }

    private static void wrongNumbers() {
        for (int v : new int[] {-1, 3, Integer.MIN_VALUE, Integer.MAX_VALUE}) {
            refused("11: taste " + v, x.taste(0, v, 5), -1);
            refused("44: keep " + v, x.keep(v));
            refused("45: again " + v, x.again(v));
        }
        for (int v : new int[] {-1, 10, Integer.MIN_VALUE, Integer.MAX_VALUE}) {
            refused("11: taste as " + v, x.taste(0, 0, v), -1);
            refused("46: count of " + v, x.count(v), -100);
        }
        for (int v : new int[] {-1, 4, Integer.MIN_VALUE, Integer.MAX_VALUE}) {
            refused("12: sheet of kind " + v, x.sheet(v, 1, 9, 0), -1);
            dueThrown("8: cell, what " + v, true, 0, v);
        }
        for (int v : new int[] {-1, 8, Integer.MIN_VALUE, Integer.MAX_VALUE}) {
            dueThrown("9: guest, what " + v, false, 0, v);
        }
        for (int kind = 0; kind < 3; kind++) {
            refused("12: sheet of -1", x.sheet(kind, -1, 9, 0), -2);
            refused("12: sheet of the least", x.sheet(kind, Integer.MIN_VALUE, 9, 0), -2);
        }
        for (int kind = 0; kind < 4; kind++) {
            refused("12: sheet of 17", x.sheet(kind, 17, 9, 0), -1);
            refused("12: sheet of the most", x.sheet(kind, Integer.MAX_VALUE, 9, 0), -1);
        }
        wrongSums();
    }

    private static void wrongSums() {
        for (int v : new int[] {-1, 10000, Integer.MIN_VALUE, Integer.MAX_VALUE}) {
            refused("40: ate " + v, x.ate(v), -1);
            refused("41: enough, v " + v, x.enough(5, v), -1);
            refused("38: settle from " + v, x.settle(v, 0), -1);
            refused("38: settle with " + v, x.settle(0, v), -1);
        }
        for (int v : new int[] {-1, 11, 101, Integer.MIN_VALUE, Integer.MAX_VALUE}) {
            refused("41: enough, p " + v, x.enough(v, 0), -1);
            refused("42: wide, p " + v, x.wide(v, 50), -1);
        }
        for (int v : new int[] {-1, 101, Integer.MIN_VALUE, Integer.MAX_VALUE}) {
            refused("42: wide, n " + v, x.wide(5, v), -1);
        }
        for (int v : new int[] {-1, 0, 51, Integer.MIN_VALUE, Integer.MAX_VALUE}) {
            refused("43: suppers of " + v, x.suppers(1, v), -1);
        }
        for (int v : new int[] {-1, 0, 6, Integer.MIN_VALUE, Integer.MAX_VALUE}) {
            refused("27: richest of " + v, x.richest(0, v), -1);
        }
        for (int v : new int[] {-1, 0, 7, Integer.MIN_VALUE, Integer.MAX_VALUE}) {
            refused("28: parts of " + v, x.parts(0, v), -1);
        }
        for (int v : new int[] {-1, 8, 64, Integer.MIN_VALUE, Integer.MAX_VALUE}) {
            refused("24: slices of " + v, x.slices(v), -1);
        }
        for (int v : new int[] {-1, 5, 80, Integer.MIN_VALUE, Integer.MAX_VALUE}) {
            refused("3: end of " + v, x.end(v));
        }
    }

    private static void noAnswers() {
        refused("28: six parts of five cells", x.parts(0, 6), -2);
        refused("45: nothing kept under 0", x.again(0));
        refused("45: nothing kept under 2", x.again(2));
        for (int n = 1; n < 12; n++) {
            x.chose(3, 0);
        }
        before = state(x);
        refused("33: a thirteenth", x.chose(3, 0), -1);
        ToOneCrumb whole = x;
        x = Check.table("9", "100;100;100;100;100");
        x.suppers(1, 1);
        Check.say(x, WAITING);
        before = state(x);
        refused("17: nothing to undo", x.undo(), -1);
        refused("24: it can't be", x.slices(3), -2);
        refused("29: five guests", x.calm(), -3);
        refused("36: one cell", x.offer(0), -2);
        x = Check.table("9", "100", "");
        Check.say(x, "").deeds();
        x.settle(3, 9);
        before = state(x);
        refused("25: all can", x.quarrel(), -2);
        refused("39: no deserts", x.nothing(), -2);
        x = Check.table("9", "");
        x.settle(3, 9);
        before = state(x);
        refused("21: nobody", x.happiest(), -2);
        refused("26: nobody", x.stretch(), -2);
        refused("29: nobody", x.calm(), -2);
        refused("43: nobody", x.suppers(1, 1), -1);
        x = Check.table("", "100;100");
        x.settle(3, 9);
        before = state(x);
        refused("30: no cells", x.cuts(0, 1), -1);
        Check.say(x, Check.times("z", 80));
        before = state(x);
        refused("2: there would be 84", x.sign(0), -1);
        Check.say(x, "").end(77);
        before = state(x);
        refused("2: there would be 81", x.sign(0), -1);
        x = whole;
        before = state(x);
    }

    private static void dueThrown(String call, boolean ofCell, int one, int what) {
        boolean thrown = false;
        try {
            if (ofCell) {
                x.cell(one, what);
            } else {
                x.guest(one, what);
            }
        } catch (NoSuchElementException e) {
            thrown = true;
        }
        refused(call + " throws", thrown ? 0 : 1, 0);
    }

    private static void wrongTexts() {
        String[][] texts = {
            {"loaf", "1a*x", "-4"}, {"loaf", "0", "-1"}, {"loaf", Check.times("9", 17), "-17"},
            {"guests", "123;45", "-7"}, {"guests", "123;456;789;000", "-13"}, {"guests", ";", "-1"},
            {"deeds", "fa9;fa9;fd9", "-10"}, {"deeds", "xab9;xaa9", "-8"}, {"deeds", "fa9;", "-5"},
            {"rule", "c+r*(9", "-7"}, {"rule", "1234", "-4"}, {"rule", "c<r<k", "-4"},
            {"supper", "b0-4;m3;g", "-10"}, {"supper", "b0-4;", "-6"}, {"supper", "b0-4;m333", "-9"},
            {"byturns", "abcd", "-4"}, {"byturns", "", "-1"}, {"byturns", Check.times("c", 17), "-17"},
            {"claims", "a1,b2,", "-7"}, {"claims", "", "-1"}, {"claims", "a1234", "-5"},
            {"lies 0", "abcd", "-4"}, {"lies 0", "", "-1"}, {"lies 3", "abc", "-100"}, {"lies -1", "abc", "-100"},
            {"lies 3", "abcd", "-100"}, {"lies 3", "", "-100"}};
        for (String[] text : texts) {
            wholeTable();
            x.end(0);
            before = state(x);
            Check.say(x, text[1]);
            String call = "2: " + text[0] + " of " + text[1];
            refused(call, read(text[0]), Integer.parseInt(text[2]));
            Check.due(call + " forgets nothing", x.again(1), true);
            // all but 56 of 1000 have a + d + 3 no less than b
            Check.due(call + ": choices fit as before", x.tastes(0), 944);
        }
    }

    private static int read(String call) {
        return switch (call) {
            case "loaf" -> x.loaf();
            case "guests" -> x.guests();
            case "deeds" -> x.deeds();
            case "rule" -> x.rule();
            case "supper" -> x.supper();
            case "byturns" -> x.byturns();
            case "claims" -> x.claims();
            default -> x.lies(Integer.parseInt(call.substring(5)));
        };
    }

    /** THE TEXT stays with calls that don't read it, though they are not refused. */
    private static void textsThatAreNotRead() {
        wholeTable();
        List<Long> answers = new ArrayList<>(List.of((long) x.count(0), x.row(0), (long) x.cell(0, 0), (long) x.guest(0, 0)));
        int[] more = {x.worth(0, 0), x.taste(0, 0, 1), x.sheet(2, 3, 1, 1), x.give(2, 3, 3), x.back(0, 0), x.mouse(0),
            x.undo(), x.seen(0, 1), x.envy(), x.wronged(), x.happiest(), x.pieces(0), x.trade(0, 1), x.slices(1),
            x.quarrel(), x.stretch(), x.richest(0, 1), x.parts(0, 2), x.calm(), x.cuts(0, 1), x.chose(0, 1),
            x.tastes(0), x.offer(0), x.forget(), x.settle(0, 9), x.nothing(), x.ate(0), x.enough(5, 5), x.wide(5, 50),
            x.suppers(1, 2), x.keep(0) ? 1 : 0, x.again(0) ? 1 : 0};
        for (int answer : more) {
            answers.add((long) answer);
        }
        Check.due("2: calls", answers.size(), 36);
        Check.due("2: THE TEXT is not read by them", x.count(9), 4);
        Check.due("2: nor changed", x.loaf(), 2);
        Check.due("2: it is as told", x.cell(0, 1), 9);
        for (String call : new String[] {"loaf", "guests", "deeds", "rule", "supper", "byturns", "lies 0", "claims"}) {
            wholeTable();
            x.end(0);
            String good = call.equals("loaf") ? "11" : call.equals("guests") ? "000" : call.equals("deeds") ? "fa1"
                    : call.equals("rule") ? "c" : call.equals("supper") ? "m3" : call.equals("claims") ? "a1" : "ab";
            Check.say(x, good);
            Check.due("2: " + call + " stands", read(call) >= 0, true);
            Check.due("2: " + call + " empties THE TEXT", x.count(9), 0);
        }
    }
}
