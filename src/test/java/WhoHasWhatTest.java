/** Promises 18 to 23: what each has by its own worths and by those of others. */
public final class WhoHasWhatTest {
    public static void main(String[] args) {
        seen();
        envy();
        wronged();
        happiest();
        pieces();
        trade();
        Check.finish("WhoHasWhatTest");
    }

    private static void seen() {
        ToOneCrumb x = Check.table("3a2b1*4*", "100;010;111");
        x.give(1, 0, 1);
        x.give(0, 3, 3);
        Check.due("18: seen", x.seen(2, 1), 8);
        Check.due("18: seen", x.seen(1, 0), 0);
        Check.due("18: the same", x.seen(1, 1), 3);
        Check.due("18: one who has nothing", x.seen(0, 2), 0);
        Check.due("18: none such", x.seen(3, 0), -1);
        Check.due("18: none such", x.seen(0, 3), -1);
        Check.due("18: none such", x.seen(0, -1), -1);
        Check.due("18: not the mouse", x.seen(0, 9), -1);
        Check.due("18: none such", x.seen(-1, 0), -1);
        Check.due("18: none such", x.seen(Integer.MAX_VALUE, Integer.MIN_VALUE), -1);
        Check.due("18: one who has nothing, by its own", x.seen(2, 2), 0);
        x.mouse(2);
        Check.due("18: the mouse's are with nobody", x.seen(2, 0) + x.seen(2, 1) + x.seen(2, 2), 13);
    }

    private static void envy() {
        ToOneCrumb x = Check.table("3a2b1*4*", "100;010;111");
        Check.due("19: nobody has anything", x.envy(), 0);
        Check.dueRow("19: none", x);
        x.give(1, 0, 1);
        x.give(2, 2, 2);
        x.give(0, 3, 3);
        Check.due("19: pairs", x.envy(), 3);
        Check.dueRow("19: the first", x, 0, 1);
        x.back(0, 3);
        x.give(2, 3, 3);
        x.give(0, 0, 2);
        Check.due("19: pairs", x.envy(), 2);
        Check.dueRow("19: the first", x, 1, 0);
        ToOneCrumb y = Check.table("11", "100;100");
        y.give(0, 0, 0);
        y.give(1, 1, 1);
        Check.due("19: equal ones", y.envy(), 0);
        Check.dueRow("19: equal ones", y);
        y.back(0, 0);
        y.mouse(0);
        Check.due("19: one more is enough", y.envy(), 1);
        Check.dueRow("19: one more is enough", y, 0, 1);
        y.back(1, 1);
        y.mouse(1);
        Check.due("19: nobody would rather have the mouse's", y.envy(), 0);
        Check.dueRow("19: nobody would rather have the mouse's", y);
        Check.due("19: nobody is there", new ToOneCrumb().envy(), 0);
        ToOneCrumb z = Check.table("19", "100;100;100");
        z.give(2, 1, 1);
        z.give(1, 0, 0);
        Check.due("19: three pairs", z.envy(), 3);
        Check.dueRow("19: the least row of them", z, 0, 1);
    }

    private static void wronged() {
        ToOneCrumb x = Check.table("11111", "100;100;100", "fa1;yb3");
        Check.due("20: all but the one without deserts", x.wronged(), 3);
        Check.dueRow("20: how many, no cuts", x, 2, 0);
        x.give(0, 0, 0);
        x.give(0, 3, 3);
        x.mouse(1);
        Check.due("20: just more than its due", x.wronged(), 2);
        Check.dueRow("20: cuts by the mouse and the board", x, 1, 4);
        x.give(1, 4, 4);
        Check.dueRow("20: the row stays till it is told anew", x, 1, 4);
        Check.due("20: still", x.wronged(), 2);
        Check.due("20: nobody, no cells", new ToOneCrumb().wronged(), 0);
        x.deeds();
        Check.due("20: no deserts", x.wronged(), 0);
        Check.dueRow("20: no deserts", x, 0, 4);
        ToOneCrumb y = Check.table("11", "100;100");
        y.give(0, 0, 0);
        Check.due("20: just its due is not less", y.wronged(), 2);
        Check.dueRow("20: one cut", y, 1, 1);
        y.give(0, 1, 1);
        Check.due("20: the other has nothing", y.wronged(), 2);
        Check.dueRow("20: no cut between cells of the same one", y, 1, 0);
        y.taste(1, 0, 0);
        Check.due("20: of nothing worth anything", y.wronged(), 0);
        ToOneCrumb z = Check.table("1111", "");
        z.mouse(1);
        z.mouse(2);
        Check.due("20: nobody is there", z.wronged(), 0);
        Check.dueRow("20: the mouse's side by side are not cut", z, 0, 2);
        z.loaf();
        z.wronged();
        Check.dueRow("20: no cells", z, 0, 0);
        Check.say(z, "1").loaf();
        z.wronged();
        Check.dueRow("20: one cell", z, 0, 0);
        ToOneCrumb w = Check.table("999", "100;100", "fa9;yb1");
        w.give(0, 0, 1);
        w.give(1, 2, 2);
        // 18 * 29 is less than 27 * 27; 9 * 29 is no less than 2 * 27
        Check.due("20: by deserts", w.wronged(), 1);
    }

    private static void happiest() {
        ToOneCrumb x = new ToOneCrumb();
        x.settle(5, 5);
        Check.due("21: nobody", x.happiest(), -2);
        Check.dueRow("21: the row stays", x, 5, 0);
        ToOneCrumb y = Check.table("1a2b3c", "000;100;010;110");
        Check.due("21: nothing yet", y.happiest(), 0);
        Check.dueRow("21: 0 by 1", y, 0, 1);
        y.give(0, 0, 0);
        y.give(1, 1, 1);
        y.give(2, 2, 2);
        Check.due("21: half of it", y.happiest(), 2);
        Check.dueRow("21: in lowest terms", y, 1, 2);
        y.undo();
        y.give(3, 2, 2);
        Check.due("21: half of it", y.happiest(), 3);
        Check.dueRow("21: in lowest terms", y, 1, 2);
        ToOneCrumb z = Check.table("22", "000;100;200");
        z.give(1, 0, 0);
        z.give(2, 1, 1);
        Check.due("21: of equal ones the first", z.happiest(), 1);
        Check.dueRow("21: half", z, 1, 2);
        z.taste(1, 0, 0);
        Check.due("21: 0 of 0 is nothing", z.happiest(), 2);
        Check.dueRow("21: half", z, 1, 2);
        z.taste(2, 0, 0);
        Check.due("21: 0 of 0 for all", z.happiest(), 0);
        Check.dueRow("21: 0 of 0 for all", z, 0, 1);
        ToOneCrumb w = Check.table("3111", "100;100");
        w.give(1, 1, 2);
        w.give(0, 0, 0);
        Check.due("21: the first has the most", w.happiest(), 0);
        Check.dueRow("21: the first has the most", w, 1, 2);
        w.give(1, 3, 3);
        Check.due("21: of equal ones the first", w.happiest(), 0);
        Check.dueRow("21: of equal ones the first", w, 1, 2);
        w.taste(1, 0, 9);
        Check.due("21: compared with its whole", w.happiest(), 0);
        w.back(0, 0);
        w.give(1, 0, 0);
        Check.due("21: all", w.happiest(), 1);
        Check.dueRow("21: all", w, 1, 1);
        w.loaf();
        Check.due("21: no cells", w.happiest(), 0);
        Check.dueRow("21: no cells", w, 0, 1);
    }

    private static void pieces() {
        ToOneCrumb x = Check.table("11111111", "100;100");
        Check.due("22: nothing", x.pieces(0), 0);
        Check.dueRow("22: nothing", x, -1, 0);
        x.give(0, 0, 0);
        x.give(0, 2, 3);
        x.give(0, 6, 7);
        x.mouse(1);
        Check.due("22: three", x.pieces(0), 3);
        Check.dueRow("22: the first of the longest", x, 2, 2);
        x.give(0, 5, 5);
        Check.due("22: three", x.pieces(0), 3);
        Check.dueRow("22: the longest", x, 5, 3);
        Check.due("22: two slices side by side are one piece", x.pieces(0), 3);
        Check.due("22: none such", x.pieces(2), -1);
        Check.due("22: none such", x.pieces(-1), -1);
        Check.dueRow("22: the row stays", x, 5, 3);
        x.give(1, 4, 4);
        Check.due("22: another one's between", x.pieces(1), 1);
        Check.dueRow("22: another one's between", x, 4, 1);
        ToOneCrumb y = Check.table("111", "100");
        y.give(0, 0, 2);
        Check.due("22: all", y.pieces(0), 1);
        Check.dueRow("22: all", y, 0, 3);
        y.back(1, 1);
        Check.due("22: the first and the last", y.pieces(0), 2);
        Check.dueRow("22: the first of as long ones", y, 0, 1);
        y.back(0, 0);
        Check.due("22: the last", y.pieces(0), 1);
        Check.dueRow("22: the last", y, 2, 1);
        y.loaf();
        Check.due("22: no cells", y.pieces(0), 0);
        Check.dueRow("22: no cells", y, -1, 0);
    }

    private static void trade() {
        ToOneCrumb x = Check.table("1a2a1b1c9", "100;010");
        x.give(0, 2, 3);
        x.give(1, 0, 1);
        Check.due("23: the first gains by crumbs, the other by raisins", x.trade(0, 1), 2);
        Check.dueRow("23: the most together", x, 3, 1);
        Check.due("23: the other way", x.trade(1, 0), 2);
        Check.dueRow("23: the other way", x, 1, 3);
        x.taste(0, 1, 5);
        Check.due("23: none", x.trade(0, 1), 0);
        Check.dueRow("23: none", x);
        Check.due("23: like ones", x.trade(0, 0), -1);
        Check.due("23: none such", x.trade(0, 2), -1);
        Check.due("23: none such", x.trade(-1, 0), -1);
        ToOneCrumb y = Check.table("2a2a1b1b", "100;010");
        y.give(0, 2, 3);
        y.give(1, 0, 1);
        Check.due("23: four alike", y.trade(0, 1), 4);
        Check.dueRow("23: the first of them", y, 2, 0);
        Check.due("23: four alike, the other way", y.trade(1, 0), 4);
        Check.dueRow("23: the first of them", y, 0, 2);
        Check.due("23: like ones", y.trade(1, 1), -1);
        Check.due("23: none such", y.trade(2, 0), -1);
        Check.due("23: none such", y.trade(0, -1), -1);
        Check.dueRow("23: the row stays", y, 0, 2);
        y.back(0, 1);
        Check.due("23: the other one has nothing", y.trade(0, 1), 0);
        Check.dueRow("23: the other one has nothing", y);
        tradeByOne();
    }

    /** One gains by it and the other one by 0 or by 1. */
    private static void tradeByOne() {
        ToOneCrumb x = Check.table("1a9a", "100;010");
        x.give(0, 0, 0);
        x.give(1, 1, 1);
        Check.due("23: the other one gains nothing", x.trade(0, 1), 0);
        Check.due("23: nor the one", x.trade(1, 0), 0);
        x.sheet(2, 2, 2, -1);
        Check.due("23: the other one gains 1", x.trade(0, 1), 1);
        Check.dueRow("23: the other one gains 1", x, 0, 1);
        x.sheet(2, 2, 1, 1);
        Check.due("23: the other one loses 1", x.trade(0, 1), 0);
        ToOneCrumb y = Check.table("1b2a", "100;010");
        y.give(0, 0, 0);
        y.give(1, 1, 1);
        Check.due("23: both gain 1", y.trade(0, 1), 1);
        Check.dueRow("23: both gain 1", y, 0, 1);
    }
}
