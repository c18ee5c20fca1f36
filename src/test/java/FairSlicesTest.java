/** Promises 24 to 29: fair slices, as if all cells were on the board. */
public final class FairSlicesTest {
    public static void main(String[] args) {
        slices();
        slicesOfNothing();
        quarrel();
        stretch();
        richest();
        parts();
        calm();
        Check.finish("FairSlicesTest");
    }

    private static void slices() {
        ToOneCrumb x = Check.table("3a2b1*4*", "100;010;111");
        Check.due("24: all", x.slices(7), 4);
        Check.dueRow("24: all", x, 1, 0, 2, 2, 0, 3);
        x.mouse(0);
        x.give(2, 1, 3);
        Check.due("24: as if all were on the board", x.slices(7), 4);
        Check.due("24: one", x.slices(2), 1);
        Check.dueRow("24: one", x, 1, 0);
        Check.due("24: two", x.slices(5), 4);
        Check.dueRow("24: two", x, 0, 1, 2, 3);
        Check.due("24: none", x.slices(0), 0);
        Check.dueRow("24: none", x);
        x.settle(5, 5);
        Check.due("24: none such", x.slices(8), -1);
        Check.due("24: none such", x.slices(-1), -1);
        Check.dueRow("24: the row stays", x, 5, 0);
        Check.say(x, "9").loaf();
        Check.due("24: one cell for two", x.slices(5), -2);
        Check.dueRow("24: the row stays", x, 5, 0);
    }

    private static void slicesOfNothing() {
        ToOneCrumb x = Check.table("12", "100;100;000", "fb1;yc9");
        Check.due("24: nothing is due to two", x.slices(7), 1);
        Check.dueRow("24: nothing, then", x, 0, -1, 1, 0, 2, -1);
        x.deeds();
        Check.due("24: no deserts", x.slices(7), 0);
        Check.dueRow("24: no deserts", x, 0, -1, 1, -1, 2, -1);
        ToOneCrumb y = Check.table("1111", "100;100");
        Check.due("24: the least row of equal ones", y.slices(3), 4);
        Check.dueRow("24: the least row of equal ones", y, 0, 1, 1, 3);
        ToOneCrumb z = Check.table("", "100");
        Check.due("24: no cells", z.slices(1), 0);
        Check.dueRow("24: no cells", z, 0, -1);
    }

    private static void quarrel() {
        ToOneCrumb x = Check.table("1a1a", "010;010;100");
        Check.due("25: two cells for three", x.quarrel(), 7);
        Check.dueRow("25: how many", x, 3);
        Check.say(x, "91").loaf();
        Check.due("25: all can", x.quarrel(), -2);
        Check.dueRow("25: the row stays", x, 3);
        ToOneCrumb y = Check.table("9", "100;000;100;100");
        Check.due("25: the least of as small ones", y.quarrel(), 5);
        Check.dueRow("25: the least of as small ones", y, 2);
        ToOneCrumb z = Check.table("1", "100;100", "xab9");
        Check.due("25: one who has no deserts", z.quarrel(), -2);
        Check.due("25: nobody", new ToOneCrumb().quarrel(), -2);
    }

    private static void stretch() {
        Check.due("26: nobody", new ToOneCrumb().stretch(), -2);
        Check.due("26: alone", Check.table("12", "100").stretch(), 100);
        Check.due("26: nothing is worth anything", Check.table("12", "000;000").stretch(), 200);
        Check.due("26: no deserts", Check.table("12", "100;100", "").stretch(), 200);
        Check.due("26: one cell for two", Check.table("9", "100;100").stretch(), 0);
        Check.due("26: halves of unlike size", Check.table("12", "100;100").stretch(), 66);
        Check.due("26: each has what he likes", Check.table("1i*9", "010;100").stretch(), 180);
        ToOneCrumb x = Check.table("12", "100;100");
        x.settle(5, 5);
        x.stretch();
        Check.dueRow("26: it tells no row", x, 5, 0);
    }

    private static void richest() {
        ToOneCrumb x = Check.table("1321", "100;200");
        Check.due("27: one", x.richest(1, 1), 1);
        Check.dueRow("27: one", x, 6);
        Check.due("27: two", x.richest(0, 2), 1);
        Check.dueRow("27: two", x, 5);
        Check.due("27: all", x.richest(0, 4), 0);
        Check.dueRow("27: all", x, 7);
        Check.due("27: none", x.richest(0, 0), -1);
        Check.due("27: five", x.richest(0, 5), -1);
        Check.due("27: none such", x.richest(2, 1), -1);
        Check.due("27: max", x.richest(0, Integer.MAX_VALUE), -1);
        Check.dueRow("27: the row stays", x, 7);
        x.taste(0, 0, 0);
        Check.due("27: of equal ones the first", x.richest(0, 2), 0);
    }

    private static void parts() {
        ToOneCrumb x = Check.table("3a2b1*4*", "100;010;000");
        Check.due("28: two", x.parts(0, 2), 5);
        Check.dueRow("28: two", x, 1, 3);
        Check.due("28: three", x.parts(0, 3), 3);
        Check.dueRow("28: three", x, 0, 2, 3);
        Check.due("28: one", x.parts(0, 1), 10);
        Check.dueRow("28: one", x, 3);
        Check.due("28: worth nothing", x.parts(2, 3), 0);
        Check.dueRow("28: the least row", x, 0, 1, 3);
        Check.due("28: 1 2 0 0 in three", x.parts(1, 3), 0);
        Check.dueRow("28: the least row", x, 0, 1, 3);
        Check.due("28: fewer cells", x.parts(0, 5), -2);
        Check.due("28: none", x.parts(0, 0), -1);
        Check.due("28: seven", x.parts(0, 7), -1);
        Check.due("28: none such", x.parts(3, 5), -1);
        Check.dueRow("28: the row stays", x, 0, 1, 3);
        Check.say(x, "111111").loaf();
        Check.due("28: six", x.parts(0, 6), 1);
        Check.dueRow("28: six", x, 0, 1, 2, 3, 4, 5);
    }

    private static void calm() {
        ToOneCrumb x = Check.table("12", "100");
        Check.due("29: one guest", x.calm(), 1);
        Check.dueRow("29: one guest", x, 0, 0);
        Check.say(x, "100").guests();
        Check.due("29: 1 and 2 for two", x.calm(), 0);
        Check.dueRow("29: none", x);
        Check.say(x, "11").loaf();
        Check.due("29: 1 and 1 for two", x.calm(), 2);
        Check.dueRow("29: the least", x, 0, 1);
        Check.say(x, "000").guests();
        Check.due("29: a third one who likes nothing", x.calm(), 2);
        Check.dueRow("29: the least", x, 0, 1);
        x.taste(0, 0, 0);
        x.taste(1, 0, 0);
        // 3 who have all, 6 pairs in order
        Check.due("29: all like nothing", x.calm(), 9);
        Check.dueRow("29: the least", x, 0, 0);
        Check.say(x, "100;100").guests();
        Check.due("29: five guests", x.calm(), -3);
        Check.due("29: nobody", new ToOneCrumb().calm(), -2);
        Check.dueRow("29: the row stays", x, 0, 0);
        ToOneCrumb y = Check.table("", "100;200");
        y.settle(5, 5);
        Check.due("29: no cells", y.calm(), 1);
        Check.dueRow("29: no cells", y);
        ToOneCrumb z = Check.table(Check.times("1", 16), "000;000;000;000");
        // 4 * 1 + 12 * 15 + 24 * 105 + 24 * 455
        Check.due("29: all ways", z.calm(), 13624);
    }
}
