/** Promises 24 to 29: fair slices, as if all cells were on the board. */
public final class FairSlicesTest {
    public static void main(String[] args) {
        slices();
        slicesOfNothing();
        quarrel();
        stretch();
        richest();
        parts();
        calm();
        Check.finish("FairSlicesTest");
    }

    private static void slices() {
        ToOneCrumb x = Check.table("3a2b1*4*", "100;010;111");
        Check.due("24: all", x.slices(7), 4);
        Check.dueRow("24: all", x, 1, 0, 2, 2, 0, 3);
        x.mouse(0);
        x.give(2, 1, 3);
        Check.due("24: as if all were on the board", x.slices(7), 4);
        Check.due("24: one", x.slices(2), 1);
        Check.dueRow("24: one", x, 1, 0);
        Check.due("24: two", x.slices(5), 4);
        Check.dueRow("24: two", x, 0, 1, 2, 3);
        Check.due("24: none", x.slices(0), 0);
        Check.dueRow("24: none", x);
        x.settle(5, 5);
        Check.due("24: none such", x.slices(8), -1);
        Check.due("24: none such", x.slices(-1), -1);
        Check.dueRow("24: the row stays", x, 5, 0);
        Check.say(x, "9").loaf();
        Check.due("24: one cell for two", x.slices(5), -2);
        Check.dueRow("24: the row stays", x, 5, 0);
    }

    private static void slicesOfNothing() {
        ToOneCrumb x = Check.table("12", "100;100;000", "fb1;yc9");
        Check.due("24: nothing is due to two", x.slices(7), 1);
        Check.dueRow("24: nothing, then", x, 0, -1, 1, 0, 2, -1);
        x.deeds();
        Check.due("24: no deserts", x.slices(7), 0);
        Check.dueRow("24: no deserts", x, 0, -1, 1, -1, 2, -1);
        ToOneCrumb y = Check.table("1111", "100;100");
        Check.due("24: the least row of equal ones", y.slices(3), 4);
        Check.dueRow("24: the least row of equal ones", y, 0, 1, 1, 3);
        ToOneCrumb z = Check.table("", "100");
        Check.due("24: no cells", z.slices(1), 0);
        Check.dueRow("24: no cells", z, 0, -1);
        slicesByOrder();
        slicesOfSix();
    }

    private static void slicesByOrder() {
        // just 3, 2 and 2 of 7 are due
        ToOneCrumb x = Check.table("223", "100;100;100", "fa1;yb1;yc1");
        Check.due("24: the one of 3 takes the last alone", x.slices(7), 3);
        Check.dueRow("24: the least row of two orders", x, 1, 0, 2, 1, 0, 2);
        Check.due("24: two of them", x.slices(6), 2);
        Check.dueRow("24: two of them", x, 1, 0, 2, 1);
        Check.due("24: the first and the last", x.slices(5), 3);
        Check.dueRow("24: the least row, though the other order takes as many", x, 0, 1, 2, 2);
        Check.say(x, "322").loaf();
        Check.due("24: the one of 3 takes the first", x.slices(7), 3);
        Check.dueRow("24: the one of 3 takes the first", x, 0, 0, 1, 1, 2, 2);
        Check.say(x, "222").loaf();
        Check.due("24: one cell less than just", x.slices(7), -2);
    }

    private static void slicesOfSix() {
        ToOneCrumb x = Check.table(Check.times("1", 12), "100;100;100;100;100;100");
        Check.due("24: two for each of six", x.slices(63), 12);
        Check.dueRow("24: two for each of six", x, 0, 1, 1, 3, 2, 5, 3, 7, 4, 9, 5, 11);
        Check.due("24: the sixth alone", x.slices(32), 2);
        Check.dueRow("24: the sixth alone", x, 5, 1);
        Check.due("24: a seventh", x.slices(64), -1);
        Check.due("24: a seventh alone", x.slices(1 << 31), -1);
        Check.due("24: far above", x.slices(Integer.MAX_VALUE), -1);
        Check.say(x, Check.times("1", 11)).loaf();
        Check.due("24: eleven for six", x.slices(63), -2);
        Check.due("24: eleven for five", x.slices(31), 10);
        ToOneCrumb y = Check.table(Check.times("1", 16), "100;100;100;100", "fa5;fb1;gda0");
        // 13 and a third, 2 and two thirds are due
        Check.due("24: fourteen and three of sixteen", y.slices(3), -2);
        Check.say(y, "fa7;gba3").deeds();
        Check.due("24: just all sixteen", y.slices(11), 16);
        Check.dueRow("24: just all sixteen", y, 0, 13, 1, 15, 3, -1);
    }

    private static void quarrel() {
        ToOneCrumb x = Check.table("1a1a", "010;010;100");
        Check.due("25: two cells for three", x.quarrel(), 7);
        Check.dueRow("25: how many", x, 3);
        Check.say(x, "91").loaf();
        Check.due("25: all can", x.quarrel(), -2);
        Check.dueRow("25: the row stays", x, 3);
        ToOneCrumb y = Check.table("9", "100;000;100;100");
        Check.due("25: the least of as small ones", y.quarrel(), 5);
        Check.dueRow("25: the least of as small ones", y, 2);
        ToOneCrumb z = Check.table("1", "100;100", "xab9");
        Check.due("25: one who has no deserts", z.quarrel(), -2);
        Check.due("25: nobody", new ToOneCrumb().quarrel(), -2);
        ToOneCrumb six = Check.table("11111", "100;100;100;100;100;100");
        six.suppers(1, 1);
        Check.due("25: five cells for six", six.quarrel(), 63);
        Check.dueRow("25: five cells for six", six, 6);
        Check.say(six, "1111").loaf();
        six.suppers(1, 1);
        Check.due("25: four cells for six", six.quarrel(), 31);
        Check.dueRow("25: four cells for six", six, 5);
        Check.say(six, "1").loaf();
        Check.say(six, "fe1;ff1").deeds();
        Check.due("25: one cell for the last two", six.quarrel(), 48);
        Check.dueRow("25: one cell for the last two", six, 2);
        Check.say(six, "fe1;ff1;fa1").deeds();
        six.taste(0, 0, 0);
        Check.due("25: not the one to whom nothing is worth anything", six.quarrel(), 48);
        six.loaf();
        Check.due("25: no cells", six.quarrel(), -2);
        Check.dueRow("25: the row stays", six, 2);
    }

    private static void stretch() {
        Check.due("26: nobody", new ToOneCrumb().stretch(), -2);
        Check.due("26: alone", Check.table("12", "100").stretch(), 100);
        Check.due("26: nothing is worth anything", Check.table("12", "000;000").stretch(), 200);
        Check.due("26: no deserts", Check.table("12", "100;100", "").stretch(), 200);
        Check.due("26: one cell for two", Check.table("9", "100;100").stretch(), 0);
        Check.due("26: halves of unlike size", Check.table("12", "100;100").stretch(), 66);
        Check.due("26: each has what he likes", Check.table("1i*9", "010;100").stretch(), 180);
        ToOneCrumb x = Check.table("12", "100;100");
        x.settle(5, 5);
        x.stretch();
        Check.dueRow("26: it tells no row", x, 5, 0);
        x.mouse(0);
        Check.due("26: as if all were on the board", x.stretch(), 66);
        x.loaf();
        Check.due("26: no cells", x.stretch(), 200);
        Check.due("26: nobody but cells", Check.table("12", "").stretch(), -2);
        stretchNearTheEdge();
    }

    private static void stretchNearTheEdge() {
        // each has all that is worth anything to it, and half of that is due
        ToOneCrumb x = Check.table("11", "000;000");
        Check.say(x, "i=p").rule();
        Check.due("26: just 200", x.stretch(), 200);
        Check.say(x, "(i=p)*199+(i>p)+(p>i)").rule();
        Check.due("26: 199 of 200", x.stretch(), 199);
        Check.say(x, "(i=p)*198+(i>p)+(p>i)").rule();
        Check.due("26: 198 of 199, that is 198.99", x.stretch(), 198);
        ToOneCrumb three = Check.table("111", "000;000;000");
        Check.say(three, "i=p").rule();
        Check.due("26: 300 would be more than 200", three.stretch(), 200);
        ToOneCrumb y = Check.table("1" + Check.times("9", 11), "100;100");
        Check.say(y, "1+(p=0)*98").rule();
        // 99 and eleven of 1: half of 110 is due; the other one has 11 of 55
        Check.due("26: 20", y.stretch(), 20);
        Check.say(y, "(p=0)*999").rule();
        Check.due("26: 0", y.stretch(), 0);
        Check.say(y, "(p=0)*199+(p=1)").rule();
        Check.due("26: just 1", y.stretch(), 1);
        Check.say(y, "(p=0)*200+(p=1)").rule();
        Check.due("26: less than 1", y.stretch(), 0);
    }

    private static void richest() {
        ToOneCrumb x = Check.table("1321", "100;200");
        Check.due("27: one", x.richest(1, 1), 1);
        Check.dueRow("27: one", x, 6);
        Check.due("27: two", x.richest(0, 2), 1);
        Check.dueRow("27: two", x, 5);
        Check.due("27: all", x.richest(0, 4), 0);
        Check.dueRow("27: all", x, 7);
        Check.due("27: none", x.richest(0, 0), -1);
        Check.due("27: five", x.richest(0, 5), -1);
        Check.due("27: none such", x.richest(2, 1), -1);
        Check.due("27: max", x.richest(0, Integer.MAX_VALUE), -1);
        Check.dueRow("27: the row stays", x, 7);
        x.taste(0, 0, 0);
        Check.due("27: of equal ones the first", x.richest(0, 2), 0);
        Check.dueRow("27: of equal ones the first", x, 0);
        Check.due("27: below 0", x.richest(0, -1), -1);
        Check.due("27: none such", x.richest(-1, 1), -1);
        Check.say(x, "1213").loaf();
        Check.due("27: the last", x.richest(1, 1), 3);
        Check.dueRow("27: the last", x, 6);
        Check.due("27: the last two", x.richest(1, 2), 2);
        Check.dueRow("27: the last two", x, 8);
        Check.due("27: the last three", x.richest(1, 3), 1);
        Check.dueRow("27: the last three", x, 12);
        Check.say(x, "2112").loaf();
        Check.due("27: the first and the last are equal", x.richest(1, 2), 0);
        x.mouse(0);
        Check.due("27: as if all were on the board", x.richest(1, 1), 0);
        Check.say(x, Check.times("1", 15) + "2").loaf();
        Check.due("27: the last of sixteen", x.richest(1, 1), 15);
        Check.due("27: all sixteen", x.richest(1, 16), 0);
        Check.dueRow("27: all sixteen", x, 34);
        Check.due("27: seventeen", x.richest(1, 17), -1);
        x.loaf();
        Check.due("27: no cells", x.richest(1, 0), -1);
        Check.due("27: no cells", x.richest(1, 1), -1);
    }

    private static void parts() {
        ToOneCrumb x = Check.table("3a2b1*4*", "100;010;000");
        Check.due("28: two", x.parts(0, 2), 5);
        Check.dueRow("28: two", x, 1, 3);
        Check.due("28: three", x.parts(0, 3), 3);
        Check.dueRow("28: three", x, 0, 2, 3);
        Check.due("28: one", x.parts(0, 1), 10);
        Check.dueRow("28: one", x, 3);
        Check.due("28: worth nothing", x.parts(2, 3), 0);
        Check.dueRow("28: the least row", x, 0, 1, 3);
        Check.due("28: 1 2 0 0 in three", x.parts(1, 3), 0);
        Check.dueRow("28: the least row", x, 0, 1, 3);
        Check.due("28: fewer cells", x.parts(0, 5), -2);
        Check.due("28: none", x.parts(0, 0), -1);
        Check.due("28: seven", x.parts(0, 7), -1);
        Check.due("28: none such", x.parts(3, 5), -1);
        Check.dueRow("28: the row stays", x, 0, 1, 3);
        Check.say(x, "111111").loaf();
        Check.due("28: six", x.parts(0, 6), 1);
        Check.dueRow("28: six", x, 0, 1, 2, 3, 4, 5);
        Check.due("28: seven of six", x.parts(0, 7), -1);
        Check.due("28: below 0", x.parts(0, -1), -1);
        Check.say(x, "11111").loaf();
        Check.due("28: six of five", x.parts(0, 6), -2);
        Check.due("28: none such, of five", x.parts(-1, 6), -1);
        Check.dueRow("28: the row stays", x, 0, 1, 2, 3, 4, 5);
        x.mouse(0);
        Check.due("28: as if all were on the board", x.parts(0, 5), 1);
        Check.dueRow("28: five", x, 0, 1, 2, 3, 4);
        Check.say(x, "9999111111111111").loaf();
        Check.due("28: six of sixteen", x.parts(0, 6), 6);
        Check.dueRow("28: six of sixteen", x, 0, 1, 2, 3, 9, 15);
        Check.say(x, "1111111111111111").loaf();
        Check.due("28: two for each, the last has six", x.parts(0, 6), 2);
        Check.dueRow("28: two for each, the last has six", x, 1, 3, 5, 7, 9, 15);
        Check.due("28: one of sixteen", x.parts(0, 1), 16);
        Check.dueRow("28: one of sixteen", x, 15);
        x.loaf();
        Check.due("28: no cells", x.parts(0, 1), -2);
        Check.due("28: no cells and no parts", x.parts(0, 0), -1);
        Check.due("28: no cells and seven parts", x.parts(0, 7), -1);
        Check.dueRow("28: the row stays", x, 15);
    }

    private static void calm() {
        ToOneCrumb x = Check.table("12", "100");
        Check.due("29: one guest", x.calm(), 1);
        Check.dueRow("29: one guest", x, 0, 0);
        Check.say(x, "100").guests();
        Check.due("29: 1 and 2 for two", x.calm(), 0);
        Check.dueRow("29: none", x);
        Check.say(x, "11").loaf();
        Check.due("29: 1 and 1 for two", x.calm(), 2);
        Check.dueRow("29: the least", x, 0, 1);
        Check.say(x, "000").guests();
        Check.due("29: a third one who likes nothing", x.calm(), 2);
        Check.dueRow("29: the least", x, 0, 1);
        x.taste(0, 0, 0);
        x.taste(1, 0, 0);
        // 3 who have all, 6 pairs in order
        Check.due("29: all like nothing", x.calm(), 9);
        Check.dueRow("29: the least", x, 0, 0);
        Check.say(x, "100;100").guests();
        Check.due("29: five guests", x.calm(), -3);
        Check.due("29: nobody", new ToOneCrumb().calm(), -2);
        Check.dueRow("29: the row stays", x, 0, 0);
        ToOneCrumb y = Check.table("", "100;200");
        y.settle(5, 5);
        Check.due("29: no cells", y.calm(), 1);
        Check.dueRow("29: no cells", y);
        ToOneCrumb z = Check.table(Check.times("1", 16), "000;000;000;000");
        // 4 * 1 + 12 * 15 + 24 * 105 + 24 * 455
        Check.due("29: all ways", z.calm(), 13624);
        Check.dueRow("29: the least of all ways", z, new long[16]);
        z.mouse(3);
        Check.due("29: as if all were on the board", z.calm(), 13624);
        calmOfOneCell();
    }

    private static void calmOfOneCell() {
        ToOneCrumb x = Check.table("1", "100;100");
        x.settle(5, 5);
        Check.due("29: one has nothing and would rather have 1", x.calm(), 0);
        Check.dueRow("29: nothing without", x);
        x.taste(0, 0, 0);
        Check.due("29: one who likes nothing has nothing", x.calm(), 1);
        Check.dueRow("29: it is the other's", x, 1);
        Check.say(x, "100;100;100").guests();
        Check.due("29: five, and -3", x.calm(), -3);
        Check.dueRow("29: the row stays", x, 1);
        x.loaf();
        Check.due("29: five and no cells", x.calm(), -3);
        ToOneCrumb four = Check.table("", "100;100;100;100");
        Check.due("29: four and no cells", four.calm(), 1);
        Check.say(four, "1111").loaf();
        Check.due("29: each has one, in any order", four.calm(), 24);
        Check.dueRow("29: the least of them", four, 0, 1, 2, 3);
        Check.due("29: nobody but cells", Check.table("12", "").calm(), -2);
        ToOneCrumb y = Check.table("1a1", "010;100");
        Check.due("29: the first has cell 0", y.calm(), 1);
        Check.dueRow("29: the first has cell 0", y, 0, 1);
        calmByUnlikeTastes();
    }

    private static void calmByUnlikeTastes() {
        ToOneCrumb x = Check.table("31i", "100;010");
        Check.due("29: what he has is worth more to the other, and 3 to the one", x.calm(), 1);
        Check.dueRow("29: what he has is worth more to the other, and 3 to the one", x, 0, 1);
        Check.say(x, "1i3").loaf();
        Check.due("29: the other way about", x.calm(), 1);
        Check.dueRow("29: the other way about", x, 1, 0);
        Check.say(x, "1i1").loaf();
        Check.due("29: as much is not more", x.calm(), 1);
        Check.dueRow("29: as much is not more", x, 1, 0);
        Check.say(x, "2i1").loaf();
        Check.due("29: both would rather have the first", x.calm(), 0);
        ToOneCrumb y = Check.table("1*91i", "100;010;001");
        Check.due("29: each has what he likes", y.calm(), 1);
        Check.dueRow("29: each has what he likes", y, 2, 0, 1);
        Check.say(y, "100").guests();
        Check.due("29: and one more who likes crumbs", y.calm(), 0);
        Check.say(y, "1*991i").loaf();
        Check.due("29: either of them", y.calm(), 2);
        Check.dueRow("29: the least of both", y, 2, 0, 3, 1);
    }
}
