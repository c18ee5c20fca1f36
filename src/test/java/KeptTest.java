/** Promises 44 to 47: what is kept, counts, the row; and what refused calls leave as it is. */
public final class KeptTest {
    public static void main(String[] args) {
        keeps();
        counts();
        rows();
        manyCalls();
        Check.finish("KeptTest");
    }

    private static void keeps() {
        ToOneCrumb x = Check.table("123", "100;010");
        Check.due("44: -1", x.keep(-1), false);
        Check.due("44: 3", x.keep(3), false);
        Check.due("45: nothing kept", x.again(0), false);
        Check.due("45: -1", x.again(-1), false);
        Check.due("45: 3", x.again(3), false);
        x.give(0, 0, 1);
        Check.due("44: 0", x.keep(0), true);
        x.mouse(2);
        Check.due("44: 2", x.keep(2), true);
        x.back(0, 1);
        Check.due("44: keeping is nothing to undo", x.count(7), 3);
        Check.due("45: 1", x.again(1), false);
        Check.due("45: refused, so undo stays", x.count(7), 3);
        Check.due("45: 0", x.again(0), true);
        Check.holders("45: 0", x, 0, 0, -1);
        Check.due("45: nothing to undo", x.count(7), 0);
        Check.due("45: 2", x.again(2), true);
        Check.holders("45: 2", x, 0, 0, 9);
        Check.due("45: 0 once more", x.again(0), true);
        Check.holders("45: 0 once more", x, 0, 0, -1);
        x.back(0, 0);
        x.keep(0);
        x.undo();
        x.again(0);
        Check.holders("44: kept anew", x, -1, 0, -1);
        x.sheet(2, 3, 1, 1);
        x.taste(0, 0, 9);
        x.again(2);
        Check.due("45: raisins are not kept", x.cell(1, 1), 2);
        Check.due("45: tastes are not kept", x.guest(0, 0), 9);
        Check.say(x, "x").loaf();
        Check.due("45: a refused loaf forgets nothing", x.again(0), true);
        Check.say(x, "123").loaf();
        Check.due("45: a new loaf does", x.again(0), false);
    }

    private static void counts() {
        ToOneCrumb x = Check.table("3a2b1*4*", "100;010;111", "fa1;yb1");
        x.give(0, 0, 0);
        x.mouse(3);
        x.chose(0, 1);
        x.chose(2, 1);
        x.wronged();
        x.sign(0);
        x.end(3);
        long[] want = {4, 3, 2, 1, 10, 5, 2, 2, 2, 3};
        for (int what = 0; what < 10; what++) {
            Check.due("46: count(" + what + ")", x.count(what), want[what]);
        }
        Check.due("46: 10", x.count(10), -100);
        Check.due("46: -1", x.count(-1), -100);
        Check.due("46: min", x.count(Integer.MIN_VALUE), -100);
    }

    private static void rows() {
        ToOneCrumb x = new ToOneCrumb();
        Check.dueRow("47: none at first", x);
        x.settle(0, 10);
        Check.dueRow("47: two", x, 6, 2);
        Check.say(x, "123").loaf();
        Check.say(x, "100").guests();
        x.give(0, 0, 0);
        x.count(0);
        x.keep(0);
        x.undo();
        x.stretch();
        x.wide(5, 50);
        x.seen(0, 0);
        x.forget();
        Check.say(x, "x").rule();
        Check.say(x, "x").supper();
        Check.say(x, "x").byturns();
        Check.say(x, "x").lies(0);
        Check.say(x, "x").claims();
        x.lies(7);
        x.parts(0, 4);
        x.pieces(5);
        Check.dueRow("47: stays", x, 6, 2);
        x.envy();
        Check.dueRow("47: told anew", x);
    }

    private static void manyCalls() {
        ToOneCrumb x = Check.table(Check.times("9i*", 16), "999;999;999;999;999;999");
        Check.due("whole", x.guest(5, 6), 16 * 171);
        for (int n = 0; n < 480; n++) {
            int answer = x.give(n % 6, n % 16, n % 16);
            Check.due("512 calls", answer, 171);
            n++;
            Check.due("512 calls", x.back((n - 1) % 16, (n - 1) % 16), 1);
        }
    }
}
