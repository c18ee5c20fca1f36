/** Promises 33 to 36: tastes told from what one chose, and what to offer next. */
public final class ChoicesTest {
    public static void main(String[] args) {
        chose();
        forgets();
        tastes();
        offers();
        Check.finish("ChoicesTest");
    }

    private static void chose() {
        ToOneCrumb x = Check.table("123", "100");
        Check.due("33: like ones", x.chose(1, 1), -1);
        Check.due("33: none such", x.chose(0, 3), -1);
        Check.due("33: none such", x.chose(3, 0), -1);
        Check.due("33: none such", x.chose(-1, 0), -1);
        for (int n = 1; n <= 12; n++) {
            Check.due("33: told", x.chose(n % 3, (n + 1) % 3), n);
        }
        Check.due("33: a thirteenth", x.chose(0, 1), -1);
        Check.due("33: twelve", x.count(6), 12);
        Check.due("33: a thirteenth of none such", x.chose(0, 3), -1);
        x.forget();
        Check.due("33: the first again", x.chose(2, 0), 1);
        Check.due("33: the same once more", x.chose(2, 0), 2);
        Check.due("33: and the other way", x.chose(0, 2), 3);
        Check.due("33: like ones, none such", x.chose(7, 7), -1);
        Check.due("33: far above", x.chose(0, Integer.MAX_VALUE), -1);
        Check.due("33: far below", x.chose(Integer.MIN_VALUE, 0), -1);
        ToOneCrumb y = Check.table("12", "");
        Check.due("33: nobody need be there", y.chose(0, 1), 1);
        y.mouse(0);
        Check.due("33: nor the cells on the board", y.chose(0, 1), 2);
        ToOneCrumb z = Check.table(Check.times("1", 16), "");
        Check.due("33: the last of sixteen", z.chose(15, 0), 1);
        Check.due("33: behind it", z.chose(16, 0), -1);
    }

    private static void forgets() {
        ToOneCrumb x = Check.table("123", "100");
        Check.due("34: none", x.forget(), 0);
        x.chose(0, 1);
        x.chose(0, 1);
        Check.due("34: two", x.forget(), 2);
        Check.due("34: none left", x.count(6), 0);
        Check.due("34: none left", x.forget(), 0);
        Check.due("34: all fit again", x.tastes(0), 1000);
        for (int n = 0; n < 12; n++) {
            x.chose(0, 1);
        }
        Check.due("34: twelve", x.forget(), 12);
        x.chose(0, 1);
        x.loaf();
        Check.due("34: with the loaf", x.forget(), 0);
    }

    private static void tastes() {
        ToOneCrumb x = Check.table("3a2b1*4*", "100;010");
        Check.due("35: no choices", x.tastes(1), 1000);
        Check.dueRow("35: no choices", x, 0, 0, 0);
        x.chose(3, 0);
        Check.due("35: a + d no less than b", x.tastes(0), 835);
        Check.dueRow("35: a + d no less than b", x, 0, 0, 0);
        Check.due("35: none such", x.tastes(2), -1);
        Check.due("35: none such", x.tastes(-1), -1);
        Check.dueRow("35: the row stays", x, 0, 0, 0);
        Check.say(x, "(a+b>8)*p+(d=5)*(3-p)").rule();
        x.chose(0, 3);
        Check.say(x, "(a+b=8)*(p=0)+(d=5)*(p=3)*i").rule();
        Check.due("35: by the rule as it is then asked", x.tastes(1), 9 + 9 * 0 + 91 * 9);
        Check.dueRow("35: the least of those", x, 0, 0, 0);
        Check.say(x, "(a+b+d>8)=(p=0)").rule();
        x.forget();
        x.chose(0, 1);
        Check.due("35: sums above 8", x.tastes(0), 835);
        Check.dueRow("35: the least sum, the least row", x, 0, 0, 9);
        Check.say(x, "p").rule();
        Check.due("35: none", x.tastes(0), 0);
        Check.dueRow("35: none", x);
        Check.say(x, "i*(1-p)").rule();
        Check.due("35: for the letter i", x.tastes(0), 1000);
        Check.say(x, "i*p").rule();
        Check.due("35: for the letter i", x.tastes(1), 0);
        Check.due("35: for the letter i", x.tastes(0), 1000);
        tastesThatFit("a*b*d<729", 1, 9, 9, 9);
        tastesThatFit("a+b+d", 1, 0, 0, 0);
        tastesThatFit("a*100+b*10+d<99", 901, 1, 0, 0);
        tastesThatFit("a*100+b*10+d<9", 991, 0, 1, 0);
        tastesThatFit("a*100+b*10+d<10", 990, 0, 1, 0);
        tastesThatFit("a*100+b*10+d<11", 989, 1, 0, 0);
        tastesThatFit("a*100+b*10+d<999", 1, 9, 9, 9);
        tastesThatFit("1", 0);
        ToOneCrumb y = Check.table("11", "555");
        y.chose(1, 0);
        Check.due("35: worth as much is no less", y.tastes(0), 1000);
        y.loaf();
        Check.due("35: no cells", y.tastes(0), 1000);
        Check.dueRow("35: no cells", y, 0, 0, 0);
        Check.due("35: far above", y.tastes(Integer.MAX_VALUE), -1);
        Check.due("35: his own taste stays", y.guest(0, 1), 5);
        twelveChoices();
    }

    /** Cell 0 was taken, and cell 1 is worth 1 with those tastes that the condition names. */
    private static void tastesThatFit(String condition, int many, long... least) {
        ToOneCrumb x = Check.table("11", "123");
        x.suppers(1, 1);
        x.chose(0, 1);
        Check.due("35: rule", Check.say(x, "p*(" + condition + ")").rule(), 0);
        Check.due("35: not " + condition, x.tastes(0), many);
        Check.dueRow("35: not " + condition, x, least);
    }

    /** Each of twelve choices counts, the first and the last too. */
    private static void twelveChoices() {
        for (int odd = 0; odd < 12; odd++) {
            ToOneCrumb x = Check.table("1*1a1", "100");
            for (int n = 0; n < 12; n++) {
                Check.due("35: choice " + n, n == odd ? x.chose(2, 0) : x.chose(0, 2), n + 1);
            }
            Check.due("35: no taste for crust, by choice " + odd, x.tastes(0), 100);
        }
    }

    private static void offers() {
        ToOneCrumb x = Check.table("12", "100");
        Check.due("36: the only pair", x.offer(0), 1);
        Check.dueRow("36: the only pair", x, 1000);
        ToOneCrumb y = Check.table("1*1a1a*2", "100;010");
        // b against d: each is no less in 550; a against d likewise, but that pair comes later
        Check.due("36: crust or raisins", y.offer(0), 1);
        Check.dueRow("36: as many with either", y, 550);
        y.chose(1, 0);
        // of the 550 with b no less than d: d no less than a in 220, a no less than d in 385
        Check.due("36: next", y.offer(0), 3);
        Check.dueRow("36: next", y, 385);
        Check.due("36: none such", y.offer(2), -1);
        Check.due("36: none such", y.offer(-1), -1);
        Check.say(y, "5").loaf();
        Check.due("36: fewer than two cells", y.offer(1), -2);
        Check.due("36: none such first", y.offer(2), -1);
        Check.dueRow("36: the row stays", y, 385);
        ToOneCrumb z = Check.table("123", "100");
        Check.say(z, "p").rule();
        z.chose(0, 1);
        Check.due("36: none fit", z.offer(0), 1);
        Check.dueRow("36: none fit", z, 0);
        z.loaf();
        Check.due("36: no cells", z.offer(0), -2);
        Check.due("36: no cells, none such", z.offer(1), -1);
        Check.due("36: far above", z.offer(Integer.MAX_VALUE), -1);
        offersOfSixteen();
    }

    private static void offersOfSixteen() {
        ToOneCrumb x = Check.table(Check.times("1", 16), "123");
        x.byturns();
        Check.due("36: all are left with any", x.offer(0), 1);
        Check.dueRow("36: all are left with any", x, 1000);
        Check.say(x, "a*(p=14)+b*(p=15)").rule();
        x.suppers(1, 1);
        Check.due("36: the last two", x.offer(0), 16 * 14 + 15);
        Check.dueRow("36: the last two", x, 550);
        Check.say(x, "a*(p=0)+b*(p=15)").rule();
        Check.due("36: the first and the last", x.offer(0), 15);
        Check.dueRow("36: the first and the last", x, 550);
        Check.say(x, "a*(p=3)+b*(p=5)+d*(p=9)").rule();
        Check.due("36: the first of three such pairs", x.offer(0), 16 * 3 + 5);
        x.chose(3, 5);
        // of 550 with a no less than b: d no less than a in 220, a no less than d in 385; b no less than d in 220
        Check.due("36: the first of two such pairs", x.offer(0), 16 * 3 + 9);
        Check.dueRow("36: the first of two such pairs", x, 385);
    }
}
