/** All calls with the most that there can be: sixteen cells, six guests; each row told behind a longer one. */
public final class FullTableTest {
    public static void main(String[] args) {
        texts();
        whoHasWhat();
        fairSlices();
        cuttingAndChoosing();
        choicesAndClaims();
        chance();
        Check.finish("FullTableTest");
    }

    /** Sixteen cells alike, worth 171 to each of six. */
    private static ToOneCrumb fullTable() {
        return Check.table(Check.times("9i*", 16), "999;999;999;999;999;999");
    }

    /** A row of six numbers ahead of a call that tells fewer, so that one of them would be seen if it stayed. */
    private static void longRow(ToOneCrumb x) {
        x.suppers(1, 1);
        Check.due("43: six numbers", x.count(8), 6);
    }

    private static void texts() {
        ToOneCrumb x = fullTable();
        Check.due("4: sixteen", x.count(0), 16);
        Check.due("5: six", x.count(1), 6);
        Check.due("9: whole of the last", x.guest(5, 6), 2736);
        Check.due("10: the last cell to the last", x.worth(5, 15), 171);
        Check.due("12: the last", x.sheet(2, 16, -6, 1), 45);
        Check.due("12: the last", x.cell(15, 1), 9);
        Check.due("11: the last", x.taste(5, 2, 0), 9);
        Check.due("10: by that", x.worth(5, 15), 162);
        Check.due("10: the one ahead of it keeps its own", x.worth(4, 15), 171);
        Check.dueNoCell(x, 16, 0);
        Check.dueNoGuest(x, 6, 0);
    }

    private static void whoHasWhat() {
        ToOneCrumb x = fullTable();
        Check.due("13: the last", x.give(5, 15, 15), 171);
        Check.due("13: the others", x.give(0, 0, 14), 15 * 171);
        Check.due("18: seen", x.seen(5, 0), 15 * 171);
        Check.due("18: seen", x.seen(0, 5), 171);
        longRow(x);
        Check.due("19: four and two, and the last and the first", x.envy(), 9);
        Check.dueRow("19: the first pair", x, 1, 0);
        longRow(x);
        Check.due("20: all but the first", x.wronged(), 62);
        Check.dueRow("20: five, one cut", x, 5, 1);
        longRow(x);
        Check.due("21: the first", x.happiest(), 0);
        Check.dueRow("21: the first", x, 15, 16);
        longRow(x);
        Check.due("22: the last", x.pieces(5), 1);
        Check.dueRow("22: the last", x, 15, 1);
        Check.due("22: the first", x.pieces(0), 1);
        Check.dueRow("22: the first", x, 0, 15);
        longRow(x);
        Check.due("23: nothing is gained", x.trade(5, 0), 0);
        Check.dueRow("23: nothing is gained", x);
        Check.say(x, "1+p*(i=5)").rule();
        Check.due("23: the other one gains nothing", x.trade(0, 5), 0);
        Check.say(x, "1+p*(i=5)+(15-p)*(i=0)").rule();
        Check.due("23: the last has the last", x.trade(5, 0), 0);
        x.back(0, 15);
        x.give(0, 15, 15);
        x.give(5, 0, 14);
        longRow(x);
        Check.due("23: each of fifteen", x.trade(5, 0), 15);
        Check.dueRow("23: the first and the last", x, 0, 15);
        Check.due("23: each of fifteen", x.trade(0, 5), 15);
        Check.dueRow("23: the last and the first", x, 15, 0);
        longRow(x);
        Check.due("16: a supper", Check.say(x, "b0-15;gf15-15").supper(), 2);
        Check.dueRow("16: a supper", x, 0, 15);
    }

    private static void fairSlices() {
        ToOneCrumb x = fullTable();
        Check.due("24: three for each of six are too many", x.slices(63), -2);
        Check.due("24: five", x.slices(31), 15);
        Check.dueRow("24: five", x, 0, 2, 1, 5, 2, 8, 3, 11, 4, 14);
        Check.due("24: five others", x.slices(62), 15);
        Check.dueRow("24: five others", x, 1, 2, 2, 5, 3, 8, 4, 11, 5, 14);
        Check.due("25: all six", x.quarrel(), 63);
        Check.dueRow("25: all six", x, 6);
        Check.due("26: two of sixteen for each", x.stretch(), 75);
        longRow(x);
        Check.due("27: one", x.richest(5, 1), 0);
        Check.dueRow("27: one", x, 171);
        Check.due("27: all", x.richest(5, 16), 0);
        Check.dueRow("27: all", x, 2736);
        Check.due("28: two for each", x.parts(5, 6), 342);
        Check.dueRow("28: the last has six", x, 1, 3, 5, 7, 9, 15);
        Check.due("29: six", x.calm(), -3);
        Check.dueRow("29: the row stays", x, 1, 3, 5, 7, 9, 15);
        Check.say(x, "1+(p=15)*15").rule();
        Check.due("24: the last alone is 16 of 31", x.slices(63), -2);
        Check.due("25: six cells, six cells and the last for three", x.quarrel(), 15);
        Check.due("27: the last", x.richest(5, 1), 15);
        Check.dueRow("27: the last", x, 16);
        Check.due("28: fifteen and sixteen", x.parts(5, 2), 15);
        Check.dueRow("28: fifteen and sixteen", x, 14, 15);
        Check.due("28: three", x.parts(5, 3), 7);
        Check.dueRow("28: the shortest first", x, 6, 13, 15);
        ToOneCrumb four = Check.table(Check.times("1", 16), "100;100;100;100");
        four.suppers(1, 1);
        Check.due("29: four of four, in any order", four.calm(), 24);
        Check.dueRow("29: the least", four, 0, 0, 0, 0, 1, 1, 1, 1, 2, 2, 2, 2, 3, 3, 3, 3);
        behindSixteen(four);
    }

    /** Each behind a row of sixteen numbers. */
    private static void behindSixteen(ToOneCrumb x) {
        x.calm();
        Check.due("25: four can", x.quarrel(), -2);
        Check.due("28: one part", x.parts(3, 1), 16);
        Check.dueRow("28: one part", x, 15);
        x.calm();
        Check.due("27: two", x.richest(3, 2), 0);
        Check.dueRow("27: two", x, 2);
        x.calm();
        Check.due("24: nobody", x.slices(0), 0);
        Check.dueRow("24: nobody", x);
        x.calm();
        Check.say(x, "1*").loaf();
        Check.due("29: one cell for four", x.calm(), 0);
        Check.dueRow("29: nothing without", x);
    }

    private static void cuttingAndChoosing() {
        ToOneCrumb x = fullTable();
        longRow(x);
        Check.due("30: halves", x.cuts(5, 0), 8);
        Check.dueRow("30: halves", x, 8 * 171, 8 * 171, 0);
        Check.say(x, "1+(p=15)*(i=5)*99").rule();
        Check.due("30: ahead of the last", x.cuts(5, 4), 15);
        Check.dueRow("30: ahead of the last", x, 100, 15, 0);
        Check.due("30: halves for the other one", x.cuts(4, 5), 8);
        Check.dueRow("30: halves for the other one", x, 8, 107, 1);
        Check.due("31: the last of sixteen turns", Check.say(x, "aaaaaaaaaaaaaaaf").byturns(), 16);
        Check.dueRow("31: the last of sixteen turns", x, 15, 0, 0, 0, 0, 100);
        Check.due("31: the first of sixteen turns", Check.say(x, "fedcbafedcbafedc").byturns(), 16);
        Check.dueRow("31: the first of sixteen turns", x, 2, 2, 3, 3, 3, 102);
        Check.due("32: nothing to gain", Check.say(x, "fedcbafedcbafedc").lies(5), 0);
        Check.dueRow("32: nothing to gain", x);
    }

    private static void choicesAndClaims() {
        ToOneCrumb x = fullTable();
        Check.due("33: the last", x.chose(15, 0), 1);
        longRow(x);
        Check.due("35: all", x.tastes(5), 1000);
        Check.dueRow("35: all", x, 0, 0, 0);
        longRow(x);
        Check.due("36: all are left", x.offer(5), 1);
        Check.dueRow("36: all are left", x, 1000);
        longRow(x);
        Check.due("37: six cells for each", Check.say(x, "a999,b999,c999,d999,e999,f999").claims(), 3);
        Check.dueRow("37: six cells for each", x, 2, 12);
        Check.due("37: two cells for each", Check.say(x, "f342,e342,d342,c342,b342,a342").claims(), 63);
        Check.dueRow("37: two cells for each", x, 6, 12);
        Check.due("37: two and three", Check.say(x, "f343,e343,d343,c343,b342,a342").claims(), 63);
        Check.dueRow("37: two and three", x, 6, 16);
        Check.due("37: one too much", Check.say(x, "f343,e343,d343,c343,b343,a342").claims(), 31);
        Check.dueRow("37: one too much", x, 5, 15);
        longRow(x);
        Check.due("39: 24 for each", x.nothing(), 0);
        Check.dueRow("39: 24 for each", x, 24, 24, 24, 24, 24, 24);
        Check.due("40: three of six", x.ate(3), 20);
        Check.dueRow("40: three of six", x, 7, 0);
        longRow(x);
        Check.due("38: it tells two numbers", x.settle(0, 2), 1);
        Check.dueRow("38: it tells two numbers", x, 1, 1);
    }

    private static void chance() {
        ToOneCrumb x = fullTable();
        longRow(x);
        Check.due("41: two of six or less", x.enough(5, 2), 0);
        Check.dueRow("41: two of six or less", x, 11, 32);
        Check.due("42: half", x.wide(5, 50), 3);
        Check.due("42: 34 in 100", x.wide(5, 34), 2);
        Check.due("42: 35 in 100", x.wide(5, 35), 3);
        Check.due("43: fifty", x.suppers(1, 50) >= 0, true);
        long sum = 0;
        for (int guest = 0; guest < 6; guest++) {
            sum += x.row(guest);
        }
        Check.due("43: all cells, fifty times", sum, 50 * 2736);
    }
}
