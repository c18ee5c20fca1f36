/** Promises 44 to 47: what is kept, counts, the row; and what refused calls leave as it is. */
public final class KeptTest {
    public static void main(String[] args) {
        keeps();
        counts();
        rows();
        manyCalls();
        Check.finish("KeptTest");
    }

    private static void keeps() {
        ToOneCrumb x = Check.table("123", "100;010");
        Check.due("44: -1", x.keep(-1), false);
        Check.due("44: 3", x.keep(3), false);
        Check.due("45: nothing kept", x.again(0), false);
        Check.due("45: -1", x.again(-1), false);
        Check.due("45: 3", x.again(3), false);
        x.give(0, 0, 1);
        Check.due("44: 0", x.keep(0), true);
        x.mouse(2);
        Check.due("44: 2", x.keep(2), true);
        x.back(0, 1);
        Check.due("44: keeping is nothing to undo", x.count(7), 3);
        Check.due("45: 1", x.again(1), false);
        Check.due("45: refused, so undo stays", x.count(7), 3);
        Check.due("45: 0", x.again(0), true);
        Check.holders("45: 0", x, 0, 0, -1);
        Check.due("45: nothing to undo", x.count(7), 0);
        Check.due("45: 2", x.again(2), true);
        Check.holders("45: 2", x, 0, 0, 9);
        Check.due("45: 0 once more", x.again(0), true);
        Check.holders("45: 0 once more", x, 0, 0, -1);
        x.back(0, 0);
        x.keep(0);
        x.undo();
        x.again(0);
        Check.holders("44: kept anew", x, -1, 0, -1);
        x.sheet(2, 3, 1, 1);
        x.taste(0, 0, 9);
        x.again(2);
        Check.due("45: raisins are not kept", x.cell(1, 1), 2);
        Check.due("45: tastes are not kept", x.guest(0, 0), 9);
        Check.say(x, "x").loaf();
        Check.due("45: a refused loaf forgets nothing", x.again(0), true);
        Check.say(x, "123").loaf();
        Check.due("45: a new loaf does", x.again(0), false);
        Check.due("45: all of them", x.again(1), false);
        Check.due("45: all of them", x.again(2), false);
        Check.due("44: far above", x.keep(Integer.MAX_VALUE), false);
        Check.due("44: far below", x.keep(Integer.MIN_VALUE), false);
        Check.due("44: 32", x.keep(32), false);
        keepsEach();
    }

    private static void keepsEach() {
        ToOneCrumb x = Check.table(Check.times("1", 16), "100;100;100;100;100;100");
        for (int i = 0; i < 3; i++) {
            x.give(5 - i, 14 - i, 14 - i);
            Check.due("44: under " + i, x.keep(i), true);
        }
        x.give(0, 0, 0);
        x.mouse(15);
        Check.due("45: far above", x.again(Integer.MAX_VALUE), false);
        Check.due("45: far below", x.again(Integer.MIN_VALUE), false);
        Check.due("45: 32", x.again(32), false);
        Check.due("45: 33", x.again(33), false);
        Check.due("45: refused, so it is as it was", x.count(2), 11);
        Check.due("45: and can be undone", x.count(7), 5);
        for (int i = 2; i >= 0; i--) {
            Check.due("45: as under " + i, x.again(i), true);
            Check.due("45: on the board, as under " + i, x.count(2), 15 - i);
            Check.due("45: the mouse has none, as under " + i, x.count(3), 0);
            Check.due("45: with whom, as under " + i, x.cell(14 - i, 3), 5 - i);
            Check.due("45: nothing to undo", x.undo(), -1);
        }
        ToOneCrumb y = new ToOneCrumb();
        Check.due("44: no cells", y.keep(2), true);
        Check.due("45: no cells", y.again(2), true);
        Check.due("45: no cells, not kept", y.again(0), false);
        y.loaf();
        Check.due("45: an empty loaf forgets too", y.again(2), false);
    }

    private static void counts() {
        ToOneCrumb x = Check.table("3a2b1*4*", "100;010;111", "fa1;yb1");
        x.give(0, 0, 0);
        x.mouse(3);
        x.chose(0, 1);
        x.chose(2, 1);
        x.wronged();
        x.sign(0);
        x.end(3);
        long[] want = {4, 3, 2, 1, 10, 5, 2, 2, 2, 3};
        for (int what = 0; what < 10; what++) {
            Check.due("46: count(" + what + ")", x.count(what), want[what]);
        }
        Check.due("46: 10", x.count(10), -100);
        Check.due("46: -1", x.count(-1), -100);
        Check.due("46: min", x.count(Integer.MIN_VALUE), -100);
        Check.due("46: max", x.count(Integer.MAX_VALUE), -100);
        ToOneCrumb y = Check.table(Check.times("9", 16), "100;100;100;100;100;100");
        long[] full = {16, 6, 16, 0, 144, 6, 0, 0, 0, 0};
        for (int what = 0; what < 10; what++) {
            Check.due("46: count(" + what + ") of the most", y.count(what), full[what]);
        }
        for (int cell = 0; cell < 16; cell++) {
            y.mouse(cell);
        }
        Check.due("46: none on the board", y.count(2), 0);
        Check.due("46: all with the mouse", y.count(3), 16);
        Check.due("46: crumbs of all, the mouse's too", y.count(4), 144);
        y.deeds();
        Check.due("46: no deserts", y.count(5), 0);
        y.loaf();
        Check.due("46: no cells", y.count(0) + y.count(2) + y.count(3) + y.count(4), 0);
        Check.due("46: guests stay", y.count(1), 6);
    }

    private static void rows() {
        ToOneCrumb x = new ToOneCrumb();
        Check.dueRow("47: none at first", x);
        x.settle(0, 10);
        Check.dueRow("47: two", x, 6, 2);
        Check.say(x, "123").loaf();
        Check.say(x, "100").guests();
        x.give(0, 0, 0);
        x.count(0);
        x.keep(0);
        x.undo();
        x.stretch();
        x.wide(5, 50);
        x.seen(0, 0);
        x.forget();
        Check.say(x, "x").rule();
        Check.say(x, "x").supper();
        Check.say(x, "x").byturns();
        Check.say(x, "x").lies(0);
        Check.say(x, "x").claims();
        x.lies(7);
        x.parts(0, 4);
        x.pieces(5);
        Check.dueRow("47: stays", x, 6, 2);
        x.envy();
        Check.dueRow("47: told anew", x);
        Check.say(x, Check.times("1", 16)).loaf();
        x.taste(0, 0, 0);
        x.calm();
        Check.dueRow("47: sixteen", x, new long[16]);
        Check.dueNoNumber("47: max", x, Integer.MAX_VALUE);
        Check.dueNoNumber("47: min", x, Integer.MIN_VALUE);
    }

    private static void manyCalls() {
        ToOneCrumb x = Check.table(Check.times("9i*", 16), "999;999;999;999;999;999");
        Check.due("whole", x.guest(5, 6), 16 * 171);
        for (int n = 0; n < 480; n++) {
            int answer = x.give(n % 6, n % 16, n % 16);
            Check.due("512 calls", answer, 171);
            n++;
            Check.due("512 calls", x.back((n - 1) % 16, (n - 1) % 16), 1);
        }
    }
}
