/** Promises 37 to 40: claims that quarrel, a line on which two settle, remainders, who ate it. */
public final class ClaimsTest {
    public static void main(String[] args) {
        claims();
        claimFaults();
        settle();
        nothing();
        ate();
        Check.finish("ClaimsTest");
    }

    private static void claimsAre(String text, int want, long many, long cells) {
        ToOneCrumb x = Check.table("3a2b1*4*", "100;010;111");
        x.mouse(0);
        Check.due("37: claims " + text, Check.say(x, text).claims(), want);
        Check.dueRow("37: claims " + text, x, many, cells);
        Check.due("37: text then", x.count(9), 0);
    }

    private static void claims() {
        claimsAre("a4,b1,c5", 7, 3, 4);
        claimsAre("a10,b3", 1, 1, 4);
        claimsAre("b3,a10", 1, 1, 2);
        claimsAre("b0", 1, 1, 0);
        claimsAre("a11", 0, 0, 0);
        claimsAre("a999,b1", 2, 1, 1);
        claimsAre("a3,a3,a4", 7, 3, 4);
        claimsAre("a5,a5", 3, 2, 4);
        claimsAre("a5,a6", 1, 1, 2);
        claimsAre("c004", 1, 1, 1);
        claimsAre("a0,b0,c0,a0,b0,c0", 63, 6, 0);
        claimsAre("b1,c4,a1,a4,b9,a9", 15, 4, 4);
        claimsAre("a11,a5,a5", 6, 2, 4);
        claimsAre("a8,b1,a7", 6, 2, 4);
        claimsAre("a9,a5,a4", 6, 2, 4);
        claimsAre("a6,a4,a3", 3, 2, 4);
        claimsAre("a6,a5,a4", 5, 2, 4);
        claimsAre("a10", 1, 1, 4);
        claimsAre("a010", 1, 1, 4);
        claimsAre("a000", 1, 1, 0);
        claimsAre("a11,b4,c16", 0, 0, 0);
        claimsAre("a11,b4,c16,b3", 8, 1, 2);
        claimsAre("a999,a999,a999,a999,a999,a999", 0, 0, 0);
        claimsOfSixteen();
    }

    private static void claimsOfSixteen() {
        ToOneCrumb x = Check.table(Check.times("1", 16), "100;100;100;100;100;100");
        x.suppers(1, 1);
        Check.due("37: all sixteen", Check.say(x, "f16").claims(), 1);
        Check.dueRow("37: all sixteen", x, 1, 16);
        Check.due("37: one more", Check.say(x, "f17").claims(), 0);
        Check.dueRow("37: one more", x, 0, 0);
        Check.due("37: six", Check.say(x, "a1,b2,c3,d4,e5,f1").claims(), 63);
        Check.dueRow("37: six", x, 6, 16);
        Check.due("37: one too much for six", Check.say(x, "a1,b2,c3,d4,e5,f2").claims(), 31);
        Check.dueRow("37: the least of as great ones", x, 5, 15);
        Check.due("37: one too much for the first", Check.say(x, "a17,b2,c3,d4,e5,f2").claims(), 62);
        Check.dueRow("37: one too much for the first", x, 5, 16);
        ToOneCrumb y = Check.table("31a", "100;010");
        Check.due("37: the second ahead of the first", Check.say(y, "b1,a3").claims(), 3);
        Check.dueRow("37: the second ahead of the first", y, 2, 2);
        y.loaf();
        Check.due("37: no cells", Check.say(y, "a1,b0").claims(), 2);
        Check.dueRow("37: no cells", y, 1, 0);
        Check.due("37: nobody is there", Check.say(Check.table("1", ""), "a1").claims(), -1);
        Check.due("37: nobody is there, none said", Check.table("1", "").claims(), -1);
        Check.due("37: a letter behind f", Check.say(x, "g1").claims(), -1);
        Check.due("37: a letter behind f, the second", Check.say(x, "f1,g1").claims(), -4);
    }

    private static void claimIs(String text, int want) {
        ToOneCrumb x = Check.table("123", "100;010");
        x.settle(5, 5);
        Check.due("37: claims " + text, Check.say(x, text).claims(), want);
        Check.due("37: text then", x.count(9), 0);
        Check.dueRow("37: the row stays", x, 5, 0);
    }

    private static void claimFaults() {
        claimIs("", -1);
        claimIs("c1", -1);
        claimIs("a", -2);
        claimIs("a1,", -4);
        claimIs("a1;", -3);
        claimIs("a1234", -5);
        claimIs("a1,c1", -4);
        claimIs("aa", -2);
        claimIs("1", -1);
        claimIs("a1,a1,a1,a1,a1,a1,a1", -19);
        claimIs("a1,a1,a1,a1,a1,a1,", -19);
        claimIs("a1,a1,a1,a1,a1,a1;", -18);
        claimIs("a1,a1,a1,a1,a1,a1,x", -19);
        claimIs("a123,a123,a123,a123,a123,b123,b123", -31);
        claimIs("a123,a123,a123,a123,a123,b1234", -30);
        claimIs("a/", -2);
        claimIs("a:", -2);
        claimIs("a-1", -2);
        claimIs("`1", -1);
        claimIs("a1,,", -4);
        claimIs(",", -1);
        claimIs("a1b1", -3);
        claimIs("a1,b", -5);
        claimIs("a1 ", -3);
    }

    private static void settleIs(int p, int q, int want, int other, int moves) {
        ToOneCrumb x = new ToOneCrumb();
        Check.due("38: settle(" + p + ", " + q + ")", x.settle(p, q), want);
        Check.dueRow("38: settle(" + p + ", " + q + ")", x, other, moves);
    }

    private static void settle() {
        settleIs(5, 5, 5, 5, 0);
        settleIs(5, 6, 5, 6, 0);
        settleIs(6, 5, 6, 5, 0);
        settleIs(0, 10, 6, 6, 2);
        settleIs(10, 0, 6, 6, 2);
        settleIs(0, 3, 2, 2, 1);
        settleIs(3, 5, 4, 4, 1);
        settleIs(0, 4, 2, 3, 1);
        settleIs(4, 0, 3, 2, 1);
        settleIs(0, 999, 598, 599, 7);
        settleIs(999, 0, 599, 598, 7);
        settleIs(999, 999, 999, 999, 0);
        settleIs(998, 999, 998, 999, 0);
        settleIs(0, 1, 0, 1, 0);
        settleIs(0, 2, 1, 1, 1);
        settleIs(2, 0, 1, 1, 1);
        settleIs(997, 999, 998, 998, 1);
        // 0 and 5: to 2, 3 apart, to 3; 0 and 6: to 3, 3 apart, to 4
        settleIs(0, 5, 2, 3, 1);
        settleIs(6, 0, 4, 3, 1);
        // 0 and 7: to 3, 4 apart, to 5; 2 apart, to 4, 1 apart, to 4
        settleIs(0, 7, 4, 4, 2);
        ToOneCrumb x = new ToOneCrumb();
        x.settle(1, 1);
        Check.due("38: p", x.settle(Integer.MIN_VALUE, Integer.MAX_VALUE), -1);
        Check.due("38: p", x.settle(-1, 0), -1);
        Check.due("38: p", x.settle(1000, 0), -1);
        Check.due("38: q", x.settle(0, -1), -1);
        Check.due("38: q", x.settle(0, 1000), -1);
        Check.dueRow("38: the row stays", x, 1, 0);
    }

    private static void nothing() {
        ToOneCrumb x = new ToOneCrumb();
        x.settle(5, 5);
        Check.due("39: nobody", x.nothing(), -2);
        ToOneCrumb y = Check.table("55", "100;100;100");
        Check.due("39: 10 for three", y.nothing(), 2);
        Check.dueRow("39: 10 for three", y, 4, 4, 4);
        Check.say(y, "fa1;fb2").deeds();
        Check.due("39: 3 and 6 and 0", y.nothing(), 2);
        Check.dueRow("39: 3 and 6 and 0", y, 4, 8, 0);
        Check.say(y, "gab2;gba3").deeds();
        Check.due("39: it ends on nothing", y.nothing(), 0);
        Check.dueRow("39: it ends on nothing", y, 4, 6, 0);
        y.deeds();
        Check.due("39: no deserts", y.nothing(), -2);
        Check.dueRow("39: the row stays", y, 4, 6, 0);
        ToOneCrumb z = Check.table("", "100;100");
        Check.due("39: no crumbs", z.nothing(), 0);
        Check.dueRow("39: no crumbs", z, 0, 0);
        ToOneCrumb w = Check.table("1", "100;100", Check.times("fa9;", 13) + "ya1;gba1");
        // 353 and 1
        Check.due("39: many", w.nothing(), 353);
        Check.dueRow("39: many", w, 353, 1);
        w.mouse(0);
        Check.due("39: the mouse's crumbs too", w.nothing(), 353);
        Check.say(w, "100;100;100;100").guests();
        Check.say(w, "fb9").deeds();
        Check.due("39: one has all", w.nothing(), 0);
        Check.dueRow("39: one has all", w, 0, 1, 0, 0, 0, 0);
        Check.say(w, Check.times("fa9;", 14) + "fa9").deeds();
        w.nothing();
        Check.dueRow("39: 405 of 405", w, 1, 0, 0, 0, 0, 0);
        ToOneCrumb most = Check.table("1", "100", Check.times("fa9;", 14) + "fa9");
        Check.say(most, "100;100;100;100;100").guests();
        Check.due("39: 405 and five of 1", most.nothing(), 409);
        Check.dueRow("39: 405 and five of 1", most, 405, 1, 1, 1, 1, 1);
        ToOneCrumb zero = Check.table("", "100", "fa9");
        Check.due("39: no crumbs for one", zero.nothing(), 0);
        Check.dueRow("39: no crumbs for one", zero, 0);
        Check.say(zero, "100").guests();
        Check.due("39: nothing of 28 parts", zero.nothing(), 0);
        Check.say(zero, "1").loaf();
        Check.due("39: 27 more", zero.nothing(), 27);
        Check.dueRow("39: 27 more", zero, 27, 1);
    }

    private static void ate() {
        ToOneCrumb x = Check.table("12", "100;100;100;100", "ya1;yb1;gca4");
        Check.due("40: 2, 2, 4, 0: four together", x.ate(4), 4);
        Check.dueRow("40: the smallest, nobody in all", x, 4, 0);
        Check.due("40: all", x.ate(8), 2);
        Check.dueRow("40: all", x, 7, 7);
        Check.due("40: two", x.ate(2), 4);
        Check.dueRow("40: two", x, 1, 0);
        Check.due("40: six", x.ate(6), 4);
        Check.dueRow("40: six", x, 5, 4);
        Check.due("40: none", x.ate(3), 0);
        Check.dueRow("40: none", x, -1, 0);
        Check.due("40: nothing", x.ate(0), 2);
        Check.dueRow("40: nothing", x, 0, 0);
        Check.due("40: 9999", x.ate(9999), 0);
        Check.dueRow("40: 9999", x, -1, 0);
        Check.due("40: one more than all", x.ate(9), 0);
        x.deeds();
        Check.due("40: no deserts, all sets", x.ate(0), 16);
        Check.dueRow("40: no deserts, all sets", x, 0, 0);
        ToOneCrumb y = Check.table("", "100;100;100;100;100;100");
        Check.due("40: all six", y.ate(6), 1);
        Check.dueRow("40: all six", y, 63, 63);
        Check.due("40: nobody", y.ate(0), 1);
        Check.dueRow("40: nobody", y, 0, 0);
        Check.due("40: five", y.ate(5), 6);
        Check.dueRow("40: the least of as small ones", y, 31, 0);
        Check.say(y, "fa1;fb1;fc2;fd3").deeds();
        // 3, 3, 6, 9, 0, 0: by 9 d, a c, b c, and with those who have 0
        Check.due("40: the smallest is not the least", y.ate(9), 12);
        Check.dueRow("40: the smallest is not the least", y, 8, 0);
        Check.due("40: far above", y.ate(Integer.MAX_VALUE), -1);
        Check.due("40: far below", y.ate(Integer.MIN_VALUE), -1);
        x.settle(5, 5);
        Check.due("40: 10000", x.ate(10000), -1);
        Check.due("40: -1", x.ate(-1), -1);
        Check.dueRow("40: the row stays", x, 5, 0);
    }
}
