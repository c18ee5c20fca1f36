/** Promises 13 to 17: slices given, taken back, had by the mouse, told as a supper, undone. */
public final class SlicesTest {
    public static void main(String[] args) {
        gives();
        takesBack();
        mouse();
        suppers();
        supperFaults();
        undoes();
        undoesSuppers();
        Check.finish("SlicesTest");
    }

    private static void gives() {
        ToOneCrumb x = Check.table("12345", "100;200");
        Check.due("13: a slice", x.give(1, 1, 2), 10);
        Check.holders("13: it", x, -1, 1, 1, -1, -1);
        Check.due("13: not on the board", x.give(0, 0, 1), -2);
        Check.due("13: not on the board", x.give(1, 2, 2), -2);
        Check.due("13: no such guest, though not on the board", x.give(2, 1, 1), -1);
        Check.due("13: no such guest", x.give(-1, 0, 0), -1);
        Check.due("13: from", x.give(0, -1, 0), -1);
        Check.due("13: to", x.give(0, 4, 5), -1);
        Check.due("13: from behind to", x.give(0, 4, 3), -1);
        Check.holders("13: nothing changed", x, -1, 1, 1, -1, -1);
        Check.due("13: one step alone", x.count(7), 1);
        x.mouse(0);
        Check.due("13: with the mouse", x.give(0, 0, 0), -2);
        Check.due("13: all that is left", x.give(0, 3, 4), 9);
    }

    private static void takesBack() {
        ToOneCrumb x = Check.table("12345", "100;200");
        x.give(0, 0, 1);
        x.mouse(2);
        x.give(1, 3, 3);
        Check.due("14: back", x.back(1, 4), 2);
        Check.holders("14: not from the mouse", x, 0, -1, 9, -1, -1);
        Check.due("14: none is with somebody", x.back(2, 4), 0);
        Check.due("14: that can be undone", x.count(7), 5);
        Check.due("14: from behind to", x.back(1, 0), -1);
        Check.due("14: from", x.back(-1, 0), -1);
        Check.due("14: to", x.back(0, 5), -1);
        Check.due("14: refused ones can't be undone", x.count(7), 5);
        Check.due("14: one", x.back(0, 0), 1);
    }

    private static void mouse() {
        ToOneCrumb x = Check.table("72", "100");
        Check.due("15: crumbs", x.mouse(0), 7);
        Check.due("15: again", x.mouse(0), -2);
        x.give(0, 1, 1);
        Check.due("15: with one", x.mouse(1), -2);
        Check.due("15: none such", x.mouse(2), -1);
        Check.due("15: none such", x.mouse(-1), -1);
        Check.due("15: count", x.count(3), 1);
    }

    private static void suppers() {
        ToOneCrumb x = Check.table(Check.times("1", 12), "100;200");
        Check.due("16: three acts", Check.say(x, "ga0-3;b1-2;m5").supper(), 3);
        Check.dueRow("16: row", x, 0, 9);
        Check.holders("16: done", x, 0, -1, -1, 0, -1, 9);
        Check.due("16: two digits", Check.say(x, "gb10-11;m05").supper(), 1);
        Check.dueRow("16: the second was refused", x, 1, 7);
        Check.due("16: nobody", Check.say(x, "m4;gf6-6;m6").supper(), 1);
        Check.dueRow("16: nobody", x, 1, 6);
        Check.holders("16: what comes behind is not done", x, 0, -1, -1, 0, 9, 9, -1);
        Check.due("16: the first was refused", Check.say(x, "m99").supper(), 0);
        Check.dueRow("16: the first was refused", x, 1, 6);
        Check.due("16: from behind to", Check.say(x, "b3-1").supper(), 0);
        Check.dueRow("16: from behind to", x, 1, 6);
        Check.due("16: empty", x.supper(), 0);
        Check.dueRow("16: empty", x, 0, 6);
        Check.due("16: twenty acts", Check.say(x, Check.times("b0-0;", 11) + "b0-0").supper(), 12);
    }

    private static void supperIs(String text, int want) {
        ToOneCrumb x = Check.table("123", "100;200");
        x.wronged();
        Check.due("16: supper " + text, Check.say(x, text).supper(), want);
        Check.dueRow("16: row stays, " + text, x, 2, 0);
        Check.due("16: nothing is done, " + text, x.count(2), 3);
        Check.due("16: text then", x.count(9), 0);
    }

    private static void supperFaults() {
        supperIs("g", -2);
        supperIs("gg0-1", -2);
        supperIs("ga", -3);
        supperIs("ga0", -4);
        supperIs("ga0-", -5);
        supperIs("ga000-1", -5);
        supperIs("ga0-123", -7);
        supperIs("m0;m1;", -7);
        supperIs("m0;x", -4);
        supperIs("m", -2);
        supperIs("m000", -4);
        supperIs("m0-1", -3);
        supperIs("b0", -3);
        supperIs("ba0-1", -2);
        supperIs(";", -1);
        supperIs("m0,", -3);
        supperIs(Check.times("m0;", 20), -61);
        supperIs(Check.times("m0;", 20) + "m0", -61);
        supperIs(Check.times("m0;", 19) + "m00;", -61);
        supperIs(Check.times("m0;", 19) + "m00;x", -61);
        supperIs(Check.times("m0;", 19) + "m0x;", -60);
    }

    private static void undoes() {
        ToOneCrumb x = Check.table("123", "100;200");
        Check.due("17: none", x.undo(), -1);
        x.give(0, 0, 1);
        x.mouse(2);
        x.back(0, 0);
        Check.due("17: back", x.undo(), 2);
        Check.holders("17: back", x, 0, 0, 9);
        Check.due("17: mouse", x.undo(), 1);
        Check.holders("17: mouse", x, 0, 0, -1);
        Check.due("17: give", x.undo(), 0);
        Check.holders("17: give", x, -1, -1, -1);
        Check.due("17: none left", x.undo(), -1);
        for (int n = 0; n < 17; n++) {
            if (n % 2 == 0) {
                x.give(0, 0, 0);
            } else {
                x.back(0, 0);
            }
        }
        Check.due("17: of 17 the latest 15", x.count(7), 15);
        for (int left = 14; left >= 0; left--) {
            Check.due("17: left", x.undo(), left);
        }
        Check.holders("17: as ahead of the third", x, -1);
        Check.due("17: none of them left", x.undo(), -1);
    }

    private static void undoesSuppers() {
        ToOneCrumb x = Check.table("123", "100;200");
        Check.say(x, "ga0-0;gb1-1;m2").supper();
        Check.due("17: a supper is one", x.count(7), 1);
        Check.say(x, "m0;ga1-1").supper();
        x.supper();
        Check.due("17: of which no act was done", x.count(7), 1);
        Check.say(x, "b0-0;m1").supper();
        Check.due("17: of which one was done", x.count(7), 2);
        Check.due("17: undone", x.undo(), 1);
        Check.holders("17: as ahead of it", x, 0, 1, 9);
        Check.due("17: undone", x.undo(), 0);
        Check.holders("17: as ahead of both", x, -1, -1, -1);
        x.mouse(0);
        x.keep(0);
        Check.due("17: again refused", x.again(1), false);
        Check.due("17: does not forget", x.count(7), 1);
        x.again(0);
        Check.due("17: again forgets", x.undo(), -1);
        Check.holders("17: again", x, 9, -1, -1);
    }
}
