/** Promises 41 to 43: guests who come by chance, how wide to bake, suppers drawn by a seed. */
public final class ChanceTest {
    public static void main(String[] args) {
        enough();
        wide();
        suppers();
        Check.finish("ChanceTest");
    }

    private static void enough() {
        ToOneCrumb x = Check.table("12", "100;100", "fa1;yb1");
        Check.due("41: nobody comes", x.enough(5, 1), 0);
        Check.dueRow("41: nobody comes", x, 1, 4);
        x.enough(5, 2);
        Check.dueRow("41: or the second alone", x, 1, 2);
        x.enough(5, 4);
        Check.dueRow("41: or the first alone", x, 3, 4);
        x.enough(3, 4);
        Check.dueRow("41: not both", x, 91, 100);
        x.enough(3, 5);
        Check.dueRow("41: all", x, 1, 1);
        x.enough(10, 4);
        Check.dueRow("41: both come surely", x, 0, 1);
        x.enough(0, 0);
        Check.dueRow("41: nobody comes surely", x, 1, 1);
        Check.due("41: enough for all", x.enough(10, 9999), 0);
        Check.dueRow("41: enough for all", x, 1, 1);
        x.settle(5, 5);
        Check.due("41: p", x.enough(-1, 0), -1);
        Check.due("41: p", x.enough(11, 0), -1);
        Check.due("41: v", x.enough(5, -1), -1);
        Check.due("41: v", x.enough(5, 10000), -1);
        Check.dueRow("41: the row stays", x, 5, 0);
        ToOneCrumb y = Check.table("", "100;100;100;100;100;100");
        y.enough(3, 2);
        Check.dueRow("41: six", y, 74431, 100000);
        y.enough(9, 0);
        Check.dueRow("41: nobody of six", y, 1, 1000000);
        y.enough(1, 0);
        Check.dueRow("41: nobody of six", y, 531441, 1000000);
        y.enough(5, 5);
        Check.dueRow("41: not all six", y, 63, 64);
        y.enough(10, 5);
        Check.dueRow("41: all six surely", y, 0, 1);
        y.enough(10, 6);
        Check.dueRow("41: all six surely", y, 1, 1);
        y.deeds();
        y.enough(10, 0);
        Check.dueRow("41: no deserts", y, 1, 1);
        Check.due("41: far above", y.enough(5, Integer.MAX_VALUE), -1);
        Check.due("41: far above", y.enough(Integer.MAX_VALUE, 5), -1);
        Check.due("41: far below", y.enough(Integer.MIN_VALUE, 5), -1);
        ToOneCrumb z = new ToOneCrumb();
        z.enough(0, 0);
        Check.dueRow("41: nobody is there", z, 1, 1);
        z.enough(10, 9999);
        Check.dueRow("41: nobody is there", z, 1, 1);
    }

    private static void wide() {
        ToOneCrumb x = Check.table("12", "100;100", "fa1;yb1");
        Check.due("42: none", x.wide(5, 0), 0);
        Check.due("42: 25 in 100", x.wide(5, 25), 0);
        Check.due("42: 26 in 100", x.wide(5, 26), 2);
        Check.due("42: 50 in 100", x.wide(5, 50), 2);
        Check.due("42: 75 in 100", x.wide(5, 75), 3);
        Check.due("42: 76 in 100", x.wide(5, 76), 5);
        Check.due("42: 100 in 100", x.wide(5, 100), 5);
        Check.due("42: surely", x.wide(10, 1), 5);
        Check.due("42: surely none", x.wide(0, 100), 0);
        x.settle(5, 5);
        Check.due("42: p", x.wide(-1, 5), -1);
        Check.due("42: p", x.wide(11, 5), -1);
        Check.due("42: n", x.wide(5, -1), -1);
        Check.due("42: n", x.wide(5, 101), -1);
        x.wide(5, 5);
        Check.dueRow("42: it tells no row", x, 5, 0);
        Check.due("42: far above", x.wide(Integer.MAX_VALUE, 5), -1);
        Check.due("42: far below", x.wide(5, Integer.MIN_VALUE), -1);
        Check.due("42: n 0, though all come surely", x.wide(10, 0), 0);
        Check.due("42: p 0, n 100", x.wide(0, 100), 0);
        Check.due("42: p 9, n 1", x.wide(9, 1), 0);
        Check.due("42: p 9, n 2", x.wide(9, 2), 2);
        Check.due("42: p 9, n 19", x.wide(9, 19), 3);
        Check.due("42: p 9, n 20", x.wide(9, 20), 5);
        ToOneCrumb y = Check.table("", "100;100;100");
        Check.due("42: 999 in 1000 are not 100 in 100", y.wide(1, 100), 3);
        Check.due("42: 972 in 1000 are 97 in 100", y.wide(1, 97), 1);
        Check.due("42: but not 98", y.wide(1, 98), 2);
        Check.due("42: 1 in 1000 is not 1 in 100", y.wide(9, 1), 1);
        y.deeds();
        Check.due("42: no deserts", y.wide(10, 100), 0);
        ToOneCrumb z = new ToOneCrumb();
        Check.due("42: nobody is there", z.wide(10, 100), 0);
        Check.due("42: nobody is there", z.wide(0, 0), 0);
        Check.due("42: refused", z.wide(11, 101), -1);
        ToOneCrumb six = Check.table("", "100;100;100;100;100;100", Check.times("fa9;", 14) + "ff9");
        Check.due("42: all of them", six.wide(9, 100), 14 * 27 + 27);
    }

    private static void suppers() {
        ToOneCrumb x = Check.table("12", "100");
        Check.due("43: one guest", x.suppers(5, 2), 0);
        Check.dueRow("43: one guest", x, 6);
        ToOneCrumb w = Check.table("1", "100;200;300");
        // R = 1103527590, by 65536: 16838, and 2 is left of it by 3
        Check.due("43: the first draw of seed 1", w.suppers(1, 1), 2);
        Check.dueRow("43: the first draw of seed 1", w, 0, 0, 3);
        ToOneCrumb y = Check.table("3a2b1*4*", "100;010;111");
        long[] want = drawn(1, 1);
        Check.due("43: seed 1, once", y.suppers(1, 1), best(want));
        Check.dueRow("43: seed 1, once", y, want);
        Check.due("43: seed -7, fifty", y.suppers(-7, 50), best(drawn(-7, 50)));
        Check.dueRow("43: seed -7, fifty", y, drawn(-7, 50));
        Check.due("43: n", y.suppers(1, 0), -1);
        Check.due("43: n", y.suppers(1, 51), -1);
        Check.dueRow("43: the row stays", y, drawn(-7, 50));
        Check.due("43: nobody", new ToOneCrumb().suppers(1, 1), -1);
        y.mouse(0);
        y.suppers(1, 1);
        Check.dueRow("43: all cells at first", y, want);
        Check.due("43: nothing changes", y.count(2), 3);
        Check.due("43: n", y.suppers(1, -1), -1);
        Check.due("43: n", y.suppers(1, Integer.MAX_VALUE), -1);
        Check.due("43: n", y.suppers(1, Integer.MIN_VALUE), -1);
        Check.dueRow("43: the row stays", y, want);
        for (int seed : new int[] {0, -1, Integer.MIN_VALUE, Integer.MAX_VALUE, 65536, -65536}) {
            Check.due("43: seed " + seed, y.suppers(seed, 3), best(drawn(seed, 3)));
            Check.dueRow("43: seed " + seed, y, drawn(seed, 3));
        }
        y.loaf();
        Check.due("43: no cells", y.suppers(1, 3), 0);
        Check.dueRow("43: no cells", y, 0, 0, 0);
        suppersOfEqualOnes();
    }

    private static void suppersOfEqualOnes() {
        ToOneCrumb x = Check.table("1111", "000;000;000");
        Check.say(x, "i>0").rule();
        int equal = 0;
        for (int seed = 0; seed < 60; seed++) {
            long[] turns = new long[3];
            int r = seed;
            for (int turn = 0; turn < 4; turn++) {
                r = r * 1103515245 + 12345;
                turns[(int) (Integer.toUnsignedLong(r) / 65536 % 3)]++;
            }
            turns[0] = 0;
            equal += turns[1] == turns[2] && turns[1] > 0 ? 1 : 0;
            Check.due("43: of equal ones the first, seed " + seed, x.suppers(seed, 1), best(turns));
            Check.dueRow("43: each turn, seed " + seed, x, turns);
        }
        Check.due("43: some were equal", equal > 0, true);
        ToOneCrumb y = Check.table(Check.times("1", 16), "000;000;000;000;000;000");
        Check.due("43: all have nothing", y.suppers(7, 50), 0);
        Check.dueRow("43: all have nothing", y, 0, 0, 0, 0, 0, 0);
        Check.say(y, "999").rule();
        y.suppers(7, 50);
        long sum = 0;
        for (int guest = 0; guest < 6; guest++) {
            sum += y.row(guest);
        }
        Check.due("43: all sixteen, fifty times", sum, 50 * 16 * 999);
        Check.due("43: nobody but cells", Check.table("12", "").suppers(1, 1), -1);
    }

    private static int best(long[] has) {
        int best = 0;
        for (int guest = 1; guest < has.length; guest++) {
            best = has[guest] > has[best] ? guest : best;
        }
        return best;
    }

    /** What three guests have on that loaf, by worths written out. */
    private static long[] drawn(int seed, int n) {
        int[][] worths = {{3, 2, 1, 4}, {1, 2, 0, 0}, {4, 4, 2, 5}};
        long[] has = new long[3];
        int r = seed;
        for (int supper = 0; supper < n; supper++) {
            boolean[] gone = new boolean[4];
            for (int turn = 0; turn < 4; turn++) {
                r = r * 1103515245 + 12345;
                int guest = (int) (Integer.toUnsignedLong(r) / 65536 % 3);
                int taken = -1;
                for (int cell = 3; cell >= 0; cell--) {
                    if (!gone[cell] && (taken < 0 || worths[guest][cell] >= worths[guest][taken])) {
                        taken = cell;
                    }
                }
                gone[taken] = true;
                has[guest] += worths[guest][taken];
            }
        }
        return has;
    }
}
