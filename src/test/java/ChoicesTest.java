/** Promises 33 to 36: tastes told from what one chose, and what to offer next. */
public final class ChoicesTest {
    public static void main(String[] args) {
        chose();
        forgets();
        tastes();
        offers();
        Check.finish("ChoicesTest");
    }

    private static void chose() {
        ToOneCrumb x = Check.table("123", "100");
        Check.due("33: like ones", x.chose(1, 1), -1);
        Check.due("33: none such", x.chose(0, 3), -1);
        Check.due("33: none such", x.chose(3, 0), -1);
        Check.due("33: none such", x.chose(-1, 0), -1);
        for (int n = 1; n <= 12; n++) {
            Check.due("33: told", x.chose(n % 3, (n + 1) % 3), n);
        }
        Check.due("33: a thirteenth", x.chose(0, 1), -1);
        Check.due("33: twelve", x.count(6), 12);
        ToOneCrumb y = Check.table("12", "");
        Check.due("33: nobody need be there", y.chose(0, 1), 1);
    }

    private static void forgets() {
        ToOneCrumb x = Check.table("123", "100");
        Check.due("34: none", x.forget(), 0);
        x.chose(0, 1);
        x.chose(0, 1);
        Check.due("34: two", x.forget(), 2);
        Check.due("34: none left", x.count(6), 0);
        Check.due("34: none left", x.forget(), 0);
        Check.due("34: all fit again", x.tastes(0), 1000);
    }

    private static void tastes() {
        ToOneCrumb x = Check.table("3a2b1*4*", "100;010");
        Check.due("35: no choices", x.tastes(1), 1000);
        Check.dueRow("35: no choices", x, 0, 0, 0);
        x.chose(3, 0);
        Check.due("35: a + d no less than b", x.tastes(0), 835);
        Check.dueRow("35: a + d no less than b", x, 0, 0, 0);
        Check.due("35: none such", x.tastes(2), -1);
        Check.due("35: none such", x.tastes(-1), -1);
        Check.dueRow("35: the row stays", x, 0, 0, 0);
        Check.say(x, "(a+b>8)*p+(d=5)*(3-p)").rule();
        x.chose(0, 3);
        Check.say(x, "(a+b=8)*(p=0)+(d=5)*(p=3)*i").rule();
        Check.due("35: by the rule as it is then asked", x.tastes(1), 9 + 9 * 0 + 91 * 9);
        Check.dueRow("35: the least of those", x, 0, 0, 0);
        Check.say(x, "(a+b+d>8)=(p=0)").rule();
        x.forget();
        x.chose(0, 1);
        Check.due("35: sums above 8", x.tastes(0), 835);
        Check.dueRow("35: the least sum, the least row", x, 0, 0, 9);
        Check.say(x, "p").rule();
        Check.due("35: none", x.tastes(0), 0);
        Check.dueRow("35: none", x);
        Check.say(x, "i*(1-p)").rule();
        Check.due("35: for the letter i", x.tastes(0), 1000);
        Check.say(x, "i*p").rule();
        Check.due("35: for the letter i", x.tastes(1), 0);
        Check.due("35: for the letter i", x.tastes(0), 1000);
    }

    private static void offers() {
        ToOneCrumb x = Check.table("12", "100");
        Check.due("36: the only pair", x.offer(0), 1);
        Check.dueRow("36: the only pair", x, 1000);
        ToOneCrumb y = Check.table("1*1a1a*2", "100;010");
        // b against d: each is no less in 550; a against d likewise, but that pair comes later
        Check.due("36: crust or raisins", y.offer(0), 1);
        Check.dueRow("36: as many with either", y, 550);
        y.chose(1, 0);
        // of the 550 with b no less than d: d no less than a in 220, a no less than d in 385
        Check.due("36: next", y.offer(0), 3);
        Check.dueRow("36: next", y, 385);
        Check.due("36: none such", y.offer(2), -1);
        Check.due("36: none such", y.offer(-1), -1);
        Check.say(y, "5").loaf();
        Check.due("36: fewer than two cells", y.offer(1), -2);
        Check.due("36: none such first", y.offer(2), -1);
        Check.dueRow("36: the row stays", y, 385);
        ToOneCrumb z = Check.table("123", "100");
        Check.say(z, "p").rule();
        z.chose(0, 1);
        Check.due("36: none fit", z.offer(0), 1);
        Check.dueRow("36: none fit", z, 0);
    }
}
