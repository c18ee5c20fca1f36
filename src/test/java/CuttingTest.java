/** Promises 30 to 32: one cuts and one chooses; cells chosen by turns; lies. */
public final class CuttingTest {
    public static void main(String[] args) {
        cuts();
        byTurns();
        turnFaults();
        lies();
        Check.finish("CuttingTest");
    }

    private static void cuts() {
        ToOneCrumb x = Check.table("3a2b1*4*", "100;010;001;000");
        Check.due("30: halves", x.cuts(0, 1), 2);
        Check.dueRow("30: the first is taken", x, 5, 3, 0);
        Check.due("30: halves", x.cuts(0, 2), 2);
        Check.dueRow("30: the second is taken", x, 5, 2, 1);
        Check.due("30: of equal ones the first", x.cuts(0, 3), 2);
        Check.dueRow("30: of equal ones the first", x, 5, 0, 0);
        Check.due("30: of as near ones the first", x.cuts(3, 0), 0);
        Check.dueRow("30: nothing ahead of it", x, 0, 10, 1);
        Check.due("30: 1 and 2", x.cuts(1, 0), 1);
        Check.dueRow("30: 1 and 2", x, 1, 7, 1);
        Check.due("30: like ones", x.cuts(1, 1), -1);
        Check.due("30: none such", x.cuts(0, 4), -1);
        Check.due("30: none such", x.cuts(-1, 0), -1);
        Check.due("30: none such", x.cuts(4, 0), -1);
        Check.due("30: none such", x.cuts(0, -1), -1);
        x.mouse(0);
        Check.due("30: as if all were on the board", x.cuts(1, 0), 1);
        x.loaf();
        Check.due("30: no cells", x.cuts(0, 1), -1);
        Check.dueRow("30: the row stays", x, 1, 7, 1);
        cutsAtTheEdge();
    }

    private static void cutsAtTheEdge() {
        ToOneCrumb x = Check.table("5", "100;100;000");
        Check.due("30: one cell, ahead of it as near as behind it", x.cuts(0, 1), 0);
        Check.dueRow("30: the whole is taken", x, 0, 5, 1);
        Check.due("30: one to whom both are equal takes the first", x.cuts(0, 2), 0);
        Check.dueRow("30: the first, of no cells", x, 5, 0, 0);
        Check.say(x, "115").loaf();
        Check.due("30: ahead of the last", x.cuts(0, 1), 2);
        Check.dueRow("30: ahead of the last", x, 2, 5, 1);
        Check.say(x, "511").loaf();
        Check.due("30: ahead of the second", x.cuts(0, 1), 1);
        Check.dueRow("30: ahead of the second", x, 2, 5, 0);
        Check.say(x, "121").loaf();
        Check.due("30: 1 and 3 are as near as 3 and 1", x.cuts(0, 1), 1);
        Check.dueRow("30: of as near ones the first", x, 1, 3, 1);
        Check.say(x, Check.times("1", 15) + "9").loaf();
        Check.due("30: sixteen", x.cuts(0, 1), 12);
        Check.dueRow("30: sixteen, of equal ones the first", x, 12, 12, 0);
    }

    private static void byTurns() {
        ToOneCrumb x = Check.table("3a2b1*4*", "100;010;111");
        x.mouse(3);
        Check.due("31: four turns", Check.say(x, "abca").byturns(), 4);
        Check.dueRow("31: all cells at first", x, 5, 2, 4);
        Check.due("31: nothing changes", x.count(2), 3);
        Check.due("31: one turn", Check.say(x, "b").byturns(), 1);
        Check.dueRow("31: one turn", x, 0, 2, 0);
        Check.due("31: none left", Check.say(x, "aaaaaaaaaaaaaaab").byturns(), 4);
        Check.dueRow("31: none left", x, 10, 0, 0);
        Check.due("31: of equal ones the first", Check.say(x, "bbba").byturns(), 4);
        Check.dueRow("31: of equal ones the first", x, 4, 3, 0);
        x.loaf();
        Check.due("31: no cells", Check.say(x, "ab").byturns(), 0);
        Check.dueRow("31: no cells", x, 0, 0, 0);
        ToOneCrumb y = Check.table(Check.times("1", 15) + "9", "100;200;000;000;000;300");
        Check.due("31: sixteen turns, sixteen cells", Check.say(y, "fbbbbbbbbbbbbbbb").byturns(), 16);
        Check.dueRow("31: sixteen turns, sixteen cells", y, 0, 30, 0, 0, 0, 27);
        Check.due("31: worth nothing is taken too", Check.say(y, "ccccccccccccccca").byturns(), 16);
        Check.dueRow("31: worth nothing is taken too", y, 9, 0, 0, 0, 0, 0);
        Check.due("31: holders stay", y.count(2), 16);
        Check.due("31: nothing to undo", y.count(7), 0);
        Check.due("31: a letter behind f", Check.say(y, "g").byturns(), -1);
        Check.due("31: a sign behind sixteen", Check.say(y, "fbbbbbbbbbbbbbbb;").byturns(), -17);
        Check.due("31: seventeen", Check.say(y, "fbbbbbbbbbbbbbbbf").byturns(), -17);
        Check.dueRow("31: the row stays", y, 9, 0, 0, 0, 0, 0);
    }

    private static void turnsAre(String text, int want) {
        ToOneCrumb x = Check.table("123", "100;010");
        x.settle(5, 5);
        Check.due("31: turns " + text, Check.say(x, text).byturns(), want);
        Check.due("31: text then", x.count(9), 0);
        Check.dueRow("31: the row stays", x, 5, 0);
        Check.due("32: lies by " + text, Check.say(x, text).lies(0), want);
        Check.due("32: text then", x.count(9), 0);
        Check.dueRow("32: the row stays", x, 5, 0);
        Check.due("32: none such first", Check.say(x, text).lies(2), -100);
        Check.due("32: none such first", Check.say(x, text).lies(-1), -100);
        Check.due("32: text then", x.count(9), 0);
    }

    private static void turnFaults() {
        turnsAre("", -1);
        turnsAre("c", -1);
        turnsAre("abc", -3);
        turnsAre("ab;", -3);
        turnsAre("A", -1);
        turnsAre(Check.times("a", 17), -17);
        turnsAre(Check.times("a", 16) + "c", -17);
        turnsAre(Check.times("a", 15) + "cc", -16);
        turnsAre("`", -1);
        turnsAre("a" + (char) 0, -2);
        turnsAre("a,b", -2);
        Check.due("31: nobody is there", Check.say(Check.table("123", ""), "a").byturns(), -1);
        Check.due("31: nobody is there, none said", Check.table("123", "").byturns(), -1);
        Check.due("32: nobody is there", Check.say(Check.table("123", ""), "a").lies(0), -100);
        Check.due("32: nobody is there, none said", Check.table("123", "").lies(0), -100);
        Check.due("32: none such, far above", Check.table("123", "100").lies(Integer.MAX_VALUE), -100);
        Check.due("32: one is there, none said", Check.table("123", "100").lies(0), -1);
    }

    private static void lies() {
        ToOneCrumb x = Check.table("3a2b1*4*", "100;010;111");
        Check.due("32: none by a lie", Check.say(x, "abca").lies(0), 0);
        Check.dueRow("32: nothing for 0", x);
        Check.due("32: text then", x.count(9), 0);
        // b wants the raisins and leaves the 5 crumbs till a has taken these
        ToOneCrumb y = Check.table("14b5*", "100;010");
        Check.due("32: honest", Check.say(y, "aba").byturns(), 3);
        Check.dueRow("32: honest", y, 6, 2);
        Check.due("32: the raisins first", Check.say(y, "aba").lies(0), 3);
        Check.dueRow("32: the least such lie", y, 1, 1);
        Check.due("32: taste stays", y.guest(0, 1), 0);
        Check.due("32: worth stays", y.worth(0, 1), 4);
        Check.due("32: no turn of his", Check.say(y, "bb").lies(0), 0);
        Check.due("32: one who comes last", Check.say(y, "aba").lies(1), 0);
        ToOneCrumb z = Check.table("4b15*", "100;010");
        Check.due("32: by no taste for crumbs", Check.say(z, "aba").lies(0), 3);
        Check.dueRow("32: by no taste for crumbs", z, 0, 0);
        ToOneCrumb w = Check.table("154*", "100;001");
        Check.due("32: by a taste for crust", Check.say(w, "aba").lies(0), 3);
        Check.dueRow("32: by a taste for crust", w, 2, 2);
        ToOneCrumb v = Check.table("8c*1f*5a*6f*1f1*", "231;001");
        Check.due("32: honest", Check.say(v, "abbaab").byturns(), 6);
        Check.dueRow("32: honest", v, 65, 3);
        Check.due("32: a lesser lie comes first", Check.say(v, "abbaab").lies(0), 12);
        Check.dueRow("32: a lesser lie comes first", v, 0, 5);
        v.loaf();
        v.suppers(1, 1);
        Check.due("32: no cells", Check.say(v, "ab").lies(0), 0);
        Check.dueRow("32: nothing for 0", v);
        liesByOneTaste();
        liesOfTheLast();
    }

    /** Of all thirty lies just one makes cell 1 the dearest, so that the one takes it ahead of the other one. */
    private static void liesByOneTaste() {
        String letters = "abd";
        for (int what = 0; what < 3; what++) {
            for (int v = 0; v < 10; v++) {
                ToOneCrumb x = Check.table("14b5", v == 4 ? "555;000" : "444;000");
                String lie = letters.charAt(what) + "=" + v;
                Check.due("32: rule", Check.say(x, "c*(1-i)+r*i+9*(p=1)*(" + lie + ")").rule(), 0);
                Check.due("32: honest", Check.say(x, "aba").byturns(), 3);
                Check.due("32: honest", x.row(0), 6);
                Check.due("32: by " + lie, Check.say(x, "aba").lies(0), 3);
                Check.dueRow("32: by " + lie, x, what, v);
                Check.due("32: taste stays", x.guest(0, what), v == 4 ? 5 : 4);
            }
        }
    }

    private static void liesOfTheLast() {
        ToOneCrumb x = Check.table("14b5*", "000;000;000;000;010;100");
        Check.due("32: the sixth", Check.say(x, "fef").lies(5), 3);
        Check.dueRow("32: the sixth", x, 1, 1);
        Check.due("32: its taste stays", x.guest(5, 1), 0);
        Check.due("32: none such", Check.say(x, "fef").lies(6), -100);
        Check.dueRow("32: the row stays", x, 1, 1);
        x.suppers(1, 1);
        Check.due("32: one who has no turn", Check.say(x, "fef").lies(0), 0);
        Check.dueRow("32: nothing for 0", x);
        x.mouse(1);
        Check.due("32: all cells, the mouse's too", Check.say(x, "fef").lies(5), 3);
    }
}
