/** Promises 41 to 43: guests who come by chance, how wide to bake, suppers drawn by a seed. */
public final class ChanceTest {
    public static void main(String[] args) {
        enough();
        wide();
        suppers();
        Check.finish("ChanceTest");
    }

    private static void enough() {
        ToOneCrumb x = Check.table("12", "100;100", "fa1;yb1");
        Check.due("41: nobody comes", x.enough(5, 1), 0);
        Check.dueRow("41: nobody comes", x, 1, 4);
        x.enough(5, 2);
        Check.dueRow("41: or the second alone", x, 1, 2);
        x.enough(5, 4);
        Check.dueRow("41: or the first alone", x, 3, 4);
        x.enough(3, 4);
        Check.dueRow("41: not both", x, 91, 100);
        x.enough(3, 5);
        Check.dueRow("41: all", x, 1, 1);
        x.enough(10, 4);
        Check.dueRow("41: both come surely", x, 0, 1);
        x.enough(0, 0);
        Check.dueRow("41: nobody comes surely", x, 1, 1);
        Check.due("41: enough for all", x.enough(10, 9999), 0);
        Check.dueRow("41: enough for all", x, 1, 1);
        x.settle(5, 5);
        Check.due("41: p", x.enough(-1, 0), -1);
        Check.due("41: p", x.enough(11, 0), -1);
        Check.due("41: v", x.enough(5, -1), -1);
        Check.due("41: v", x.enough(5, 10000), -1);
        Check.dueRow("41: the row stays", x, 5, 0);
        ToOneCrumb y = Check.table("", "100;100;100;100;100;100");
        y.enough(3, 2);
        Check.dueRow("41: six", y, 74431, 100000);
    }

    private static void wide() {
        ToOneCrumb x = Check.table("12", "100;100", "fa1;yb1");
        Check.due("42: none", x.wide(5, 0), 0);
        Check.due("42: 25 in 100", x.wide(5, 25), 0);
        Check.due("42: 26 in 100", x.wide(5, 26), 2);
        Check.due("42: 50 in 100", x.wide(5, 50), 2);
        Check.due("42: 75 in 100", x.wide(5, 75), 3);
        Check.due("42: 76 in 100", x.wide(5, 76), 5);
        Check.due("42: 100 in 100", x.wide(5, 100), 5);
        Check.due("42: surely", x.wide(10, 1), 5);
        Check.due("42: surely none", x.wide(0, 100), 0);
        x.settle(5, 5);
        Check.due("42: p", x.wide(-1, 5), -1);
        Check.due("42: p", x.wide(11, 5), -1);
        Check.due("42: n", x.wide(5, -1), -1);
        Check.due("42: n", x.wide(5, 101), -1);
        x.wide(5, 5);
        Check.dueRow("42: it tells no row", x, 5, 0);
    }

    private static void suppers() {
        ToOneCrumb x = Check.table("12", "100");
        Check.due("43: one guest", x.suppers(5, 2), 0);
        Check.dueRow("43: one guest", x, 6);
        ToOneCrumb w = Check.table("1", "100;200;300");
        // R = 1103527590, by 65536: 16838, and 2 is left of it by 3
        Check.due("43: the first draw of seed 1", w.suppers(1, 1), 2);
        Check.dueRow("43: the first draw of seed 1", w, 0, 0, 3);
        ToOneCrumb y = Check.table("3a2b1*4*", "100;010;111");
        long[] want = drawn(1, 1);
        Check.due("43: seed 1, once", y.suppers(1, 1), best(want));
        Check.dueRow("43: seed 1, once", y, want);
        Check.due("43: seed -7, fifty", y.suppers(-7, 50), best(drawn(-7, 50)));
        Check.dueRow("43: seed -7, fifty", y, drawn(-7, 50));
        Check.due("43: n", y.suppers(1, 0), -1);
        Check.due("43: n", y.suppers(1, 51), -1);
        Check.dueRow("43: the row stays", y, drawn(-7, 50));
        Check.due("43: nobody", new ToOneCrumb().suppers(1, 1), -1);
        y.mouse(0);
        y.suppers(1, 1);
        Check.dueRow("43: all cells at first", y, want);
        Check.due("43: nothing changes", y.count(2), 3);
        y.loaf();
        Check.due("43: no cells", y.suppers(1, 3), 0);
        Check.dueRow("43: no cells", y, 0, 0, 0);
    }

    private static int best(long[] has) {
        int best = 0;
        for (int guest = 1; guest < has.length; guest++) {
            best = has[guest] > has[best] ? guest : best;
        }
        return best;
    }

    /** What three guests have on that loaf, by worths written out. */
    private static long[] drawn(int seed, int n) {
        int[][] worths = {{3, 2, 1, 4}, {1, 2, 0, 0}, {4, 4, 2, 5}};
        long[] has = new long[3];
        int r = seed;
        for (int supper = 0; supper < n; supper++) {
            boolean[] gone = new boolean[4];
            for (int turn = 0; turn < 4; turn++) {
                r = r * 1103515245 + 12345;
                int guest = (int) (Integer.toUnsignedLong(r) / 65536 % 3);
                int taken = -1;
                for (int cell = 3; cell >= 0; cell--) {
                    if (!gone[cell] && (taken < 0 || worths[guest][cell] >= worths[guest][taken])) {
                        taken = cell;
                    }
                }
                gone[taken] = true;
                has[guest] += worths[guest][taken];
            }
        }
        return has;
    }
}
