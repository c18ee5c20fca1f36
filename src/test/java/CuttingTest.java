/** Promises 30 to 32: one cuts and one chooses; cells chosen by turns; lies. */
public final class CuttingTest {
    public static void main(String[] args) {
        cuts();
        byTurns();
        turnFaults();
        lies();
        Check.finish("CuttingTest");
    }

    private static void cuts() {
        ToOneCrumb x = Check.table("3a2b1*4*", "100;010;001;000");
        Check.due("30: halves", x.cuts(0, 1), 2);
        Check.dueRow("30: the first is taken", x, 5, 3, 0);
        Check.due("30: halves", x.cuts(0, 2), 2);
        Check.dueRow("30: the second is taken", x, 5, 2, 1);
        Check.due("30: of equal ones the first", x.cuts(0, 3), 2);
        Check.dueRow("30: of equal ones the first", x, 5, 0, 0);
        Check.due("30: of as near ones the first", x.cuts(3, 0), 0);
        Check.dueRow("30: nothing ahead of it", x, 0, 10, 1);
        Check.due("30: 1 and 2", x.cuts(1, 0), 1);
        Check.dueRow("30: 1 and 2", x, 1, 7, 1);
        Check.due("30: like ones", x.cuts(1, 1), -1);
        Check.due("30: none such", x.cuts(0, 4), -1);
        Check.due("30: none such", x.cuts(-1, 0), -1);
        x.loaf();
        Check.due("30: no cells", x.cuts(0, 1), -1);
        Check.dueRow("30: the row stays", x, 1, 7, 1);
    }

    private static void byTurns() {
        ToOneCrumb x = Check.table("3a2b1*4*", "100;010;111");
        x.mouse(3);
        Check.due("31: four turns", Check.say(x, "abca").byturns(), 4);
        Check.dueRow("31: all cells at first", x, 5, 2, 4);
        Check.due("31: nothing changes", x.count(2), 3);
        Check.due("31: one turn", Check.say(x, "b").byturns(), 1);
        Check.dueRow("31: one turn", x, 0, 2, 0);
        Check.due("31: none left", Check.say(x, "aaaaaaaaaaaaaaab").byturns(), 4);
        Check.dueRow("31: none left", x, 10, 0, 0);
        Check.due("31: of equal ones the first", Check.say(x, "bbba").byturns(), 4);
        Check.dueRow("31: of equal ones the first", x, 4, 3, 0);
        x.loaf();
        Check.due("31: no cells", Check.say(x, "ab").byturns(), 0);
        Check.dueRow("31: no cells", x, 0, 0, 0);
    }

    private static void turnsAre(String text, int want) {
        ToOneCrumb x = Check.table("123", "100;010");
        x.settle(5, 5);
        Check.due("31: turns " + text, Check.say(x, text).byturns(), want);
        Check.due("31: text then", x.count(9), 0);
        Check.dueRow("31: the row stays", x, 5, 0);
        Check.due("32: lies by " + text, Check.say(x, text).lies(0), want);
        Check.due("32: text then", x.count(9), 0);
        Check.dueRow("32: the row stays", x, 5, 0);
        Check.due("32: none such first", Check.say(x, text).lies(2), -100);
        Check.due("32: none such first", Check.say(x, text).lies(-1), -100);
        Check.due("32: text then", x.count(9), 0);
    }

    private static void turnFaults() {
        turnsAre("", -1);
        turnsAre("c", -1);
        turnsAre("abc", -3);
        turnsAre("ab;", -3);
        turnsAre("A", -1);
        turnsAre(Check.times("a", 17), -17);
        turnsAre(Check.times("a", 16) + "c", -17);
        turnsAre(Check.times("a", 15) + "cc", -16);
        Check.due("31: nobody is there", Check.say(Check.table("123", ""), "a").byturns(), -1);
    }

    private static void lies() {
        ToOneCrumb x = Check.table("3a2b1*4*", "100;010;111");
        Check.due("32: none by a lie", Check.say(x, "abca").lies(0), 0);
        Check.dueRow("32: nothing for 0", x);
        Check.due("32: text then", x.count(9), 0);
        // b wants the raisins and leaves the 5 crumbs till a has taken these
        ToOneCrumb y = Check.table("14b5*", "100;010");
        Check.due("32: honest", Check.say(y, "aba").byturns(), 3);
        Check.dueRow("32: honest", y, 6, 2);
        Check.due("32: the raisins first", Check.say(y, "aba").lies(0), 3);
        Check.dueRow("32: the least such lie", y, 1, 1);
        Check.due("32: taste stays", y.guest(0, 1), 0);
        Check.due("32: worth stays", y.worth(0, 1), 4);
        Check.due("32: no turn of his", Check.say(y, "bb").lies(0), 0);
        Check.due("32: one who comes last", Check.say(y, "aba").lies(1), 0);
        ToOneCrumb z = Check.table("4b15*", "100;010");
        Check.due("32: by no taste for crumbs", Check.say(z, "aba").lies(0), 3);
        Check.dueRow("32: by no taste for crumbs", z, 0, 0);
        ToOneCrumb w = Check.table("154*", "100;001");
        Check.due("32: by a taste for crust", Check.say(w, "aba").lies(0), 3);
        Check.dueRow("32: by a taste for crust", w, 2, 2);
        ToOneCrumb v = Check.table("8c*1f*5a*6f*1f1*", "231;001");
        Check.due("32: honest", Check.say(v, "abbaab").byturns(), 6);
        Check.dueRow("32: honest", v, 65, 3);
        Check.due("32: a lesser lie comes first", Check.say(v, "abbaab").lies(0), 12);
        Check.dueRow("32: a lesser lie comes first", v, 0, 5);
    }
}
