/** Promises 13 to 17: slices given, taken back, had by the mouse, told as a supper, undone. */
public final class SlicesTest {
    public static void main(String[] args) {
        gives();
        takesBack();
        mouse();
        suppers();
        supperFaults();
        undoes();
        undoesSuppers();
        Check.finish("SlicesTest");
    }

    private static void gives() {
        ToOneCrumb x = Check.table("12345", "100;200");
        Check.due("13: a slice", x.give(1, 1, 2), 10);
        Check.holders("13: it", x, -1, 1, 1, -1, -1);
        Check.due("13: not on the board", x.give(0, 0, 1), -2);
        Check.due("13: not on the board", x.give(1, 2, 2), -2);
        Check.due("13: no such guest, though not on the board", x.give(2, 1, 1), -1);
        Check.due("13: no such guest", x.give(-1, 0, 0), -1);
        Check.due("13: from", x.give(0, -1, 0), -1);
        Check.due("13: to", x.give(0, 4, 5), -1);
        Check.due("13: from behind to", x.give(0, 4, 3), -1);
        Check.holders("13: nothing changed", x, -1, 1, 1, -1, -1);
        Check.due("13: one step alone", x.count(7), 1);
        x.mouse(0);
        Check.due("13: with the mouse", x.give(0, 0, 0), -2);
        Check.due("13: all that is left", x.give(0, 3, 4), 9);
        Check.due("13: none is left", x.give(0, 0, 4), -2);
        ToOneCrumb y = Check.table(Check.times("9", 16), "100;200");
        Check.due("13: to behind the last", y.give(0, 0, 16), -1);
        Check.due("13: from behind the last", y.give(0, 16, 16), -1);
        Check.due("13: from far below", y.give(0, Integer.MIN_VALUE, 3), -1);
        Check.due("13: to far above", y.give(0, 3, Integer.MAX_VALUE), -1);
        Check.due("13: all sixteen", y.give(1, 0, 15), 288);
        Check.due("13: none on the board", y.count(2), 0);
        ToOneCrumb z = Check.table("11111", "100");
        z.give(0, 4, 4);
        Check.due("13: the last of it is not on the board", z.give(0, 1, 4), -2);
        Check.due("13: the first of it is not on the board", z.back(4, 4) + z.mouse(1) + z.give(0, 1, 4), 0);
        Check.holders("13: nothing of it is given", z, -1, 9, -1, -1, -1);
        Check.due("13: worth nothing is given too", z.taste(0, 0, 0) + z.give(0, 2, 3), 1);
        Check.holders("13: worth nothing is given too", z, -1, 9, 0, 0, -1);
        Check.due("13: that can be undone", z.undo(), 3);
    }

    private static void takesBack() {
        ToOneCrumb x = Check.table("12345", "100;200");
        x.give(0, 0, 1);
        x.mouse(2);
        x.give(1, 3, 3);
        Check.due("14: back", x.back(1, 4), 2);
        Check.holders("14: not from the mouse", x, 0, -1, 9, -1, -1);
        Check.due("14: none is with somebody", x.back(2, 4), 0);
        Check.due("14: that can be undone", x.count(7), 5);
        Check.due("14: from behind to", x.back(1, 0), -1);
        Check.due("14: from", x.back(-1, 0), -1);
        Check.due("14: to", x.back(0, 5), -1);
        Check.due("14: refused ones can't be undone", x.count(7), 5);
        Check.due("14: one", x.back(0, 0), 1);
        ToOneCrumb y = Check.table(Check.times("9", 16), "100;200");
        y.give(0, 0, 7);
        y.give(1, 8, 15);
        Check.due("14: to behind the last", y.back(0, 16), -1);
        Check.due("14: to far above", y.back(0, Integer.MAX_VALUE), -1);
        Check.due("14: from far below", y.back(Integer.MIN_VALUE, 3), -1);
        Check.due("14: all sixteen", y.back(0, 15), 16);
        Check.due("14: all on the board", y.count(2), 16);
        Check.due("14: on the board already", y.back(0, 15), 0);
    }

    private static void mouse() {
        ToOneCrumb x = Check.table("72", "100");
        Check.due("15: crumbs", x.mouse(0), 7);
        Check.due("15: again", x.mouse(0), -2);
        x.give(0, 1, 1);
        Check.due("15: with one", x.mouse(1), -2);
        Check.due("15: none such", x.mouse(2), -1);
        Check.due("15: none such", x.mouse(-1), -1);
        Check.due("15: count", x.count(3), 1);
        Check.due("15: one step more to undo than the gift", x.count(7), 2);
        ToOneCrumb y = Check.table(Check.times("1", 15) + "9", "");
        Check.due("15: the last, though nobody is there", y.mouse(15), 9);
        Check.due("15: behind the last", y.mouse(16), -1);
        Check.due("15: far above", y.mouse(Integer.MAX_VALUE), -1);
        Check.due("15: far below", y.mouse(Integer.MIN_VALUE), -1);
        Check.due("15: refused, so the first can be undone alone", y.undo(), 0);
    }

    private static void suppers() {
        ToOneCrumb x = Check.table(Check.times("1", 12), "100;200");
        Check.due("16: three acts", Check.say(x, "ga0-3;b1-2;m5").supper(), 3);
        Check.dueRow("16: row", x, 0, 9);
        Check.holders("16: done", x, 0, -1, -1, 0, -1, 9);
        Check.due("16: two digits", Check.say(x, "gb10-11;m05").supper(), 1);
        Check.dueRow("16: the second was refused", x, 1, 7);
        Check.due("16: nobody", Check.say(x, "m4;gf6-6;m6").supper(), 1);
        Check.dueRow("16: nobody", x, 1, 6);
        Check.holders("16: what comes behind is not done", x, 0, -1, -1, 0, 9, 9, -1);
        Check.due("16: the first was refused", Check.say(x, "m99").supper(), 0);
        Check.dueRow("16: the first was refused", x, 1, 6);
        Check.due("16: from behind to", Check.say(x, "b3-1").supper(), 0);
        Check.dueRow("16: from behind to", x, 1, 6);
        Check.due("16: empty", x.supper(), 0);
        Check.dueRow("16: empty", x, 0, 6);
        Check.due("16: twelve acts", Check.say(x, Check.times("b0-0;", 11) + "b0-0").supper(), 12);
        ToOneCrumb y = Check.table(Check.times("1", 16), "100");
        String most = "m0;m1;m2;m3;m4;m5;m6;m7;m8;m9;m10;m11;m12;m13;m14;m15";
        Check.due("16: sixteen acts", Check.say(y, most + ";b0-0").supper(), 17);
        Check.dueRow("16: sixteen acts and one that takes nothing back", y, 0, 0);
        Check.due("16: as one", y.count(7), 1);
        Check.due("16: sixty signs", Check.say(y, Check.times("b0-0;", 11) + "b0-00").supper(), 12);
        Check.dueRow("16: sixty signs", y, 0, 0);
        Check.due("16: twenty acts, the first refused", Check.say(y, Check.times("m0;", 19) + "m0").supper(), 0);
        Check.dueRow("16: twenty acts, the first refused", y, 1, 0);
        Check.due("16: so that can't be undone", y.count(7), 2);
        ToOneCrumb z = Check.table("", "");
        Check.due("16: no cells", Check.say(z, "b0-0").supper(), 0);
        Check.dueRow("16: no cells", z, 1, 0);
        Check.due("16: empty, no cells", z.supper(), 0);
        Check.dueRow("16: empty, no cells", z, 0, 0);
        refusedActs();
    }

    /** Each act that its call refuses ends the supper there. */
    private static void refusedActs() {
        String[] refused = {"gc0-0", "ga1-0", "ga0-4", "ga4-4", "ga1-2", "ga2-3", "b1-0", "b0-4", "b4-4", "m4", "m1", "m2",
            "gf0-0", "m99", "b99-99"};
        for (String act : refused) {
            ToOneCrumb x = Check.table("1234", "100;200");
            x.give(0, 1, 1);
            x.mouse(2);
            Check.due("16: behind " + act, Check.say(x, "m3;" + act + ";m0").supper(), 1);
            Check.dueRow("16: behind " + act, x, 1, 1);
            Check.holders("16: behind " + act, x, -1, 0, 9, 9);
            Check.due("16: undone, " + act, x.undo(), 2);
            Check.holders("16: undone, " + act, x, -1, 0, 9, -1);
        }
    }

    private static void supperIs(String text, int want) {
        ToOneCrumb x = Check.table("123", "100;200");
        x.wronged();
        Check.due("16: supper " + text, Check.say(x, text).supper(), want);
        Check.dueRow("16: row stays, " + text, x, 2, 0);
        Check.due("16: nothing is done, " + text, x.count(2), 3);
        Check.due("16: text then", x.count(9), 0);
    }

    private static void supperFaults() {
        supperIs("g", -2);
        supperIs("gg0-1", -2);
        supperIs("ga", -3);
        supperIs("ga0", -4);
        supperIs("ga0-", -5);
        supperIs("ga000-1", -5);
        supperIs("ga0-123", -7);
        supperIs("m0;m1;", -7);
        supperIs("m0;x", -4);
        supperIs("m", -2);
        supperIs("m000", -4);
        supperIs("m0-1", -3);
        supperIs("b0", -3);
        supperIs("ba0-1", -2);
        supperIs(";", -1);
        supperIs("m0,", -3);
        supperIs(Check.times("m0;", 20), -61);
        supperIs(Check.times("m0;", 20) + "m0", -61);
        supperIs(Check.times("m0;", 19) + "m00;", -61);
        supperIs(Check.times("m0;", 19) + "m00;x", -61);
        supperIs(Check.times("m0;", 19) + "m0x;", -60);
        supperIs(Check.times("b0-0;", 11) + "b0-0;", -61);
        supperIs(Check.times("b0-0;", 11) + "b00-00", -61);
        supperIs(Check.times("b0-0;", 11) + "b0-00;", -61);
        supperIs(Check.times("b0-0;", 11) + "b0-0x", -60);
        supperIs("m/", -2);
        supperIs("m:", -2);
        supperIs("g`0-0", -2);
        supperIs("ga-0", -3);
        supperIs("b-1", -2);
        supperIs("b0-;", -4);
        supperIs("m1;;m1", -4);
        supperIs("a", -1);
        supperIs("M0", -1);
    }

    private static void undoes() {
        ToOneCrumb x = Check.table("123", "100;200");
        Check.due("17: none", x.undo(), -1);
        x.give(0, 0, 1);
        x.mouse(2);
        x.back(0, 0);
        Check.due("17: back", x.undo(), 2);
        Check.holders("17: back", x, 0, 0, 9);
        Check.due("17: mouse", x.undo(), 1);
        Check.holders("17: mouse", x, 0, 0, -1);
        Check.due("17: give", x.undo(), 0);
        Check.holders("17: give", x, -1, -1, -1);
        Check.due("17: none left", x.undo(), -1);
        for (int n = 0; n < 17; n++) {
            if (n % 2 == 0) {
                x.give(0, 0, 0);
            } else {
                x.back(0, 0);
            }
        }
        Check.due("17: of 17 the latest 15", x.count(7), 15);
        for (int left = 14; left >= 0; left--) {
            Check.due("17: left", x.undo(), left);
        }
        Check.holders("17: as ahead of the third", x, -1);
        Check.due("17: none of them left", x.undo(), -1);
        undoesTheLatest();
    }

    private static void undoesTheLatest() {
        ToOneCrumb x = Check.table(Check.times("1", 16), "100");
        for (int cell = 0; cell < 15; cell++) {
            x.mouse(cell);
            Check.due("17: can be undone", x.count(7), cell + 1);
        }
        x.mouse(15);
        Check.due("17: of 16 the latest 15", x.count(7), 15);
        for (int cell = 15; cell >= 1; cell--) {
            Check.due("17: left", x.undo(), cell - 1);
            Check.due("17: on the board again", x.cell(cell, 3), -1);
            Check.due("17: the one ahead of it is not", x.cell(cell - 1, 3), 9);
        }
        Check.due("17: the first one is kept no more", x.undo(), -1);
        Check.due("17: so it stays", x.cell(0, 3), 9);
        Check.due("17: after undoing, as before", x.mouse(1), 1);
        Check.due("17: one", x.undo(), 0);
    }

    private static void undoesSuppers() {
        ToOneCrumb x = Check.table("123", "100;200");
        Check.say(x, "ga0-0;gb1-1;m2").supper();
        Check.due("17: a supper is one", x.count(7), 1);
        Check.say(x, "m0;ga1-1").supper();
        x.supper();
        Check.due("17: of which no act was done", x.count(7), 1);
        Check.say(x, "b0-0;m1").supper();
        Check.due("17: of which one was done", x.count(7), 2);
        Check.due("17: undone", x.undo(), 1);
        Check.holders("17: as ahead of it", x, 0, 1, 9);
        Check.due("17: undone", x.undo(), 0);
        Check.holders("17: as ahead of both", x, -1, -1, -1);
        x.mouse(0);
        x.keep(0);
        Check.due("17: again refused", x.again(1), false);
        Check.due("17: does not forget", x.count(7), 1);
        x.again(0);
        Check.due("17: again forgets", x.undo(), -1);
        Check.holders("17: again", x, 9, -1, -1);
    }
}
