/** Promises 1 to 12: the texts, the loaf, the guests, deeds, the rule, worths, tastes, sheets. */
public final class LoafTest {
    public static void main(String[] args) {
        newObject();
        signs();
        ends();
        loaves();
        guestLines();
        deeds();
        rules();
        ruleFaults();
        ruleValues();
        cells();
        guests();
        worths();
        tastes();
        sheets();
        Check.finish("LoafTest");
    }

    private static void newObject() {
        ToOneCrumb x = new ToOneCrumb();
        for (int what = 0; what <= 9; what++) {
            Check.due("1: count(" + what + ")", x.count(what), 0);
        }
        Check.due("1: NONE", ToOneCrumb.NONE, -1);
        Check.due("1: worth", x.worth(0, 0), -1);
        Check.dueNoCell(x, 0, 0);
        Check.dueNoGuest(x, 0, 0);
        Check.dueRow("1: no row", x);
    }

    private static void signs() {
        ToOneCrumb x = new ToOneCrumb();
        for (int n = 1; n <= 20; n++) {
            Check.due("2: sign", x.sign(0x31313131), 4 * n);
        }
        Check.due("2: sign above 80", x.sign(0), -1);
        Check.due("2: still 80", x.count(9), 80);
        x.end(77);
        Check.due("2: 77 and 4", x.sign(0), -1);
        x.end(76);
        Check.due("2: 76 and 4", x.sign(0), 80);
        x.end(0);
        x.sign(('1' << 24) | ('2' << 16) | ('3' << 8) | '4');
        Check.due("2: loaf", x.loaf(), 4);
        for (int cell = 0; cell < 4; cell++) {
            Check.due("2: highest byte first", x.cell(cell, 0), cell + 1);
        }
        x.sign(0xff000000);
        Check.due("2: a sign above 127", x.loaf(), -1);
        Check.due("2: emptied", x.count(9), 0);
        Check.due("2: four signs 255", x.sign(-1), 4);
        Check.due("2: four signs more", x.sign(Integer.MIN_VALUE), 8);
        x.end(0);
        x.sign(0x31323334);
        for (int n = 2; n <= 20; n++) {
            x.sign(0x2a2a2a2a);
        }
        Check.due("2: refused", x.sign(0x31313131), -1);
        x.end(4);
        Check.due("2: the first ones stand as told", x.loaf(), 4);
    }

    private static void ends() {
        ToOneCrumb x = new ToOneCrumb();
        Check.due("3: end(-1)", x.end(-1), false);
        Check.due("3: end(1) of none", x.end(1), false);
        Check.due("3: end(0)", x.end(0), true);
        x.sign(0x31323334);
        Check.due("3: end(5)", x.end(5), false);
        Check.due("3: nothing changed", x.count(9), 4);
        Check.due("3: end(min)", x.end(Integer.MIN_VALUE), false);
        Check.due("3: end(4)", x.end(4), true);
        Check.due("3: end(2)", x.end(2), true);
        Check.due("3: two left", x.count(9), 2);
        Check.due("3: end(3) of two, though there were four", x.end(3), false);
        Check.due("3: loaf", x.loaf(), 2);
        Check.say(x, Check.times("1", 80));
        Check.due("3: end(81) of 80", x.end(81), false);
        Check.due("3: end(max)", x.end(Integer.MAX_VALUE), false);
        Check.due("3: end(80) of 80", x.end(80), true);
        Check.due("3: all 80", x.count(9), 80);
        Check.due("3: end(0) of 80", x.end(0), true);
        Check.due("3: none", x.count(9), 0);
    }

    private static void loafIs(String text, int want) {
        ToOneCrumb x = Check.table("55", "");
        Check.due("4: loaf of " + text, Check.say(x, text).loaf(), want);
        Check.due("4: cells then", x.count(0), want < 0 ? 2 : want);
        Check.due("4: text then", x.count(9), 0);
    }

    private static void loaves() {
        loafIs("", 0);
        loafIs("9i*1a2*3", 4);
        loafIs("0", -1);
        loafIs("1j", -2);
        loafIs("1*a", -3);
        loafIs("1aa", -3);
        loafIs("1**", -3);
        loafIs("a", -1);
        loafIs("1 ", -2);
        loafIs(Check.times("1", 16), 16);
        loafIs(Check.times("1", 17), -17);
        loafIs(Check.times("1a*", 16), 16);
        loafIs(Check.times("1a*", 16) + "1", -49);
        loafIs(Check.times("1a*", 16) + "x", -49);
        loafIs(Check.times("1a*", 26), -49);
        loafIs("/", -1);
        loafIs(":", -1);
        loafIs("1`", -2);
        loafIs("1)", -2);
        loafIs("1+", -2);
        loafIs("" + (char) 0, -1);
        loafIs("1" + (char) 255, -2);
        loafIs(Check.times("1", 15) + "1i*", 16);
        loafIs(Check.times("1", 15) + "1i**", -19);
        loafIs(Check.times("1", 80), -17);
        loafAnew();
        loafAfterLoaf();
    }

    /** What an earlier loaf told, or one that was refused, is not in a later one. */
    private static void loafAfterLoaf() {
        ToOneCrumb x = new ToOneCrumb();
        Check.say(x, "9i*9i*9i*").loaf();
        Check.say(x, "8i*8i*8i*").loaf();
        Check.due("4: a third one", Check.say(x, "12").loaf(), 2);
        Check.due("4: its crumbs", x.count(4), 3);
        Check.due("4: no raisins", x.cell(0, 1), 0);
        Check.due("4: no crust", x.cell(1, 2), 0);
        Check.dueNoCell(x, 2, 0);
        Check.due("4: refused at its end", Check.say(x, "7h*7h*7h*x").loaf(), -10);
        Check.due("4: nothing of it", x.count(4), 3);
        Check.due("4: one behind it", Check.say(x, "5").loaf(), 1);
        Check.due("4: its crumbs", x.count(4), 5);
        Check.due("4: an empty one", x.loaf(), 0);
        Check.due("4: no cells", x.count(0), 0);
        Check.due("4: no crumbs", x.count(4), 0);
        Check.dueNoCell(x, 0, 0);
    }

    private static void loafAnew() {
        ToOneCrumb x = Check.table("123", "111;222");
        x.give(0, 0, 1);
        x.mouse(2);
        x.keep(1);
        x.chose(0, 1);
        Check.due("4: refused", Check.say(x, "0").loaf(), -1);
        Check.due("4: choices stay", x.count(6), 1);
        Check.due("4: undo stays", x.count(7), 2);
        Check.holders("4: holders stay", x, 0, 0, 9);
        x.envy();
        Check.due("4: anew", Check.say(x, "9a8").loaf(), 2);
        Check.holders("4: all on the board", x, -1, -1);
        Check.due("4: no choices", x.count(6), 0);
        Check.due("4: nothing to undo", x.undo(), -1);
        Check.due("4: nothing kept", x.again(1), false);
        Check.due("4: guests stay", x.count(1), 2);
        Check.due("4: worths by the new one", x.worth(1, 0), 20);
        Check.due("4: whole", x.guest(1, 6), 36);
    }

    private static void guestsAre(String text, int want) {
        ToOneCrumb x = Check.table("12", "");
        Check.due("5: guests of " + text, Check.say(x, text).guests(), want);
        Check.due("5: guests then", x.count(1), Math.max(want, 0));
        Check.due("5: text then", x.count(9), 0);
    }

    private static void guestLines() {
        guestsAre("", 0);
        guestsAre("123", 1);
        guestsAre("123;456", 2);
        guestsAre("12", -3);
        guestsAre("123;", -5);
        guestsAre("123;4", -6);
        guestsAre("1234", -4);
        guestsAre("12a", -3);
        guestsAre(";", -1);
        guestsAre("123,123", -4);
        guestsAre("000;111;222;333;444;555", 6);
        guestsAre("000;111;222;333;444;555;", -24);
        guestsAre("000;111;222;333;444;5555", -24);
        guestsAre("000;111;222;333;444;55", -23);
        guestsAre("000;111;222;333;444;55x5", -23);
        guestsAre("000;111;222;333;444;555;666", -24);
        guestsAre("000;111;222;333;444;555x", -24);
        guestsAre("000;111;222;333;444x555;6", -20);
        guestsAre("12/", -3);
        guestsAre("12:", -3);
        guestsAre("-12", -1);
        ToOneCrumb x = Check.table("12", "100;200;300;400");
        Check.due("5: no room for a third", Check.say(x, "500;600;700").guests(), -9);
        Check.due("5: nothing of it", x.count(1), 4);
        Check.due("5: an end where no room is", Check.say(x, "500;600;").guests(), -9);
        Check.due("5: two more", Check.say(x, "500;600").guests(), 2);
        Check.due("5: six", x.count(1), 6);
        Check.due("5: the last one's taste", x.guest(5, 0), 6);
        Check.dueNoGuest(x, 6, 0);
        Check.due("5: full", Check.say(x, "100").guests(), -1);
        Check.due("5: full, and no line at all", Check.say(x, "x").guests(), -1);
        Check.due("5: full, and 24 signs", Check.say(x, "000;111;222;333;444;555;").guests(), -1);
        Check.due("5: full, but nothing said", x.guests(), 0);
        Check.due("5: all deserts", x.count(5), 6);
        ToOneCrumb y = Check.table("12", "100;200;300;400;500");
        Check.due("5: one that can't behind one that can", Check.say(y, "678;").guests(), -5);
        Check.due("5: a bad sign ahead of the line without room", Check.say(y, "67;678").guests(), -3);
        Check.due("5: five still", y.count(1), 5);
        Check.dueNoGuest(y, 5, 0);
        Check.due("5: the sixth", Check.say(y, "678").guests(), 1);
        Check.due("5: its first taste", y.guest(5, 0), 6);
        Check.due("5: its last taste", y.guest(5, 2), 8);
        Check.due("5: the fifth keeps its own", y.guest(4, 0), 5);
    }

    private static void deedsAre(String text, int want, int... each) {
        ToOneCrumb x = Check.table("12", "100;200;300");
        Check.due("6: deeds of " + text, Check.say(x, text).deeds(), want);
        for (int guest = 0; guest < each.length; guest++) {
            Check.due("6: " + text + " deserts of " + guest, x.guest(guest, 3), each[guest]);
        }
        Check.due("6: text then", x.count(9), 0);
    }

    private static void deeds() {
        deedsAre("", 0, 0, 0, 0);
        deedsAre("fa1", 3, 3, 0, 0);
        deedsAre("fa1;yb4", 11, 3, 8, 0);
        deedsAre("xab5", 5, 0, 5, 0);
        deedsAre("xab5;fa3", 9, 4, 5, 0);
        deedsAre("xab9;xac9;fa1;xba2", 16, 0, 7, 9);
        deedsAre("gab5;gca2", 7, 5, 0, 2);
        deedsAre("fa0", 0, 0, 0, 0);
        deedsAre("f", -2, 1, 1, 1);
        deedsAre("fa", -3, 1, 1, 1);
        deedsAre("fd1", -2, 1, 1, 1);
        deedsAre("fa1;", -5, 1, 1, 1);
        deedsAre("xaa1", -3, 1, 1, 1);
        deedsAre("gbb1", -3, 1, 1, 1);
        deedsAre("xad1", -3, 1, 1, 1);
        deedsAre("xa1", -3, 1, 1, 1);
        deedsAre("xa", -3, 1, 1, 1);
        deedsAre("gc", -3, 1, 1, 1);
        deedsAre("gcb", -4, 1, 1, 1);
        deedsAre("fab1", -3, 1, 1, 1);
        deedsAre("fa12", -4, 1, 1, 1);
        deedsAre("z", -1, 1, 1, 1);
        deedsAre(Check.times("fa9;", 14) + "fa9", 405, 405, 0, 0);
        deedsAre(Check.times("fa9;", 15), -61, 1, 1, 1);
        deedsAre(Check.times("fa9;", 15) + "f", -61, 1, 1, 1);
        deedsAre(Check.times("fa9;", 14) + "fa9z", -60, 1, 1, 1);
        deedsAre(Check.times("fa9;", 14) + "fab9;", -59, 1, 1, 1);
        deedsAre("xab1;" + Check.times("fa9;", 13) + "fa9" + "z", -61, 1, 1, 1);
        deedsAre("fa/", -3, 1, 1, 1);
        deedsAre("fa:", -3, 1, 1, 1);
        deedsAre("f`1", -2, 1, 1, 1);
        deedsAre(";", -1, 1, 1, 1);
        deedsAre("fa1,fb1", -4, 1, 1, 1);
        deedsAre("fa1;fb", -7, 1, 1, 1);
        // a falls to -5 and rises to 5, b rises to 8 and falls to -2
        deedsAre("xab5;fb1;xba5;xba5", 5, 5, 0, 0);
        deedsOfSixAndOfNobody();
        ToOneCrumb x = Check.table("12", "100", "fa2");
        Check.due("6: one who comes later", Check.say(x, "200").guests(), 1);
        Check.due("6: has 1", x.guest(1, 3), 1);
        Check.due("6: the other keeps its own", x.guest(0, 3), 6);
        Check.due("6: anew", Check.say(x, "yb1").deeds(), 2);
        Check.due("6: those ahead are gone", x.guest(0, 3), 0);
    }

    private static void deedsOfSixAndOfNobody() {
        ToOneCrumb nobody = Check.table("12", "");
        Check.due("6: nobody is there", Check.say(nobody, "fa1").deeds(), -2);
        Check.due("6: nobody, nothing said", nobody.deeds(), 0);
        ToOneCrumb alone = Check.table("12", "100");
        Check.due("6: nobody else is there", Check.say(alone, "xab1").deeds(), -3);
        Check.due("6: the same one", Check.say(alone, "xaa1").deeds(), -3);
        Check.due("6: the last word's end", Check.say(alone, "x").deeds(), -2);
        ToOneCrumb six = Check.table("12", "100;100;100;100;100;100");
        Check.due("6: a letter behind f", Check.say(six, "fg1").deeds(), -2);
        Check.due("6: refused, so they stay", six.count(5), 6);
        // f: 27, 18, 9 for helping and 9, 9 for wrongs; e: 8 for helping less 9
        Check.due("6: each of six", Check.say(six, "ff9;yf9;gfa9;xaf9;xef9;gef8;fd0").deeds(), 72);
        long[] want = {0, 0, 0, 0, 0, 72};
        for (int guest = 0; guest < 6; guest++) {
            Check.due("6: deserts of " + guest, six.guest(guest, 3), want[guest]);
        }
        Check.due("6: empty: 0 for all", six.deeds(), 0);
        Check.due("6: 0 for the last", six.guest(5, 3), 0);
    }

    private static void rules() {
        ToOneCrumb x = Check.table("3b*5", "234");
        Check.due("7: plain", x.worth(0, 0), 3 * 2 + 2 * 3 + 4);
        Check.due("7: rule", Check.say(x, "c").rule(), 0);
        Check.due("7: by it", x.worth(0, 0), 3);
        Check.due("7: refused", Check.say(x, "c+").rule(), -3);
        Check.due("7: the old one stays", x.worth(0, 0), 3);
        Check.due("7: text emptied", x.count(9), 0);
        Check.due("7: refused, of other things", Check.say(x, "7+8)").rule(), -4);
        Check.due("7: the old one stays", x.worth(0, 0), 3);
        Check.due("7: another one", Check.say(x, "7").rule(), 0);
        Check.due("7: by that", x.worth(0, 0), 7);
        Check.due("7: refused at 40", Check.say(x, Check.times("9*", 20) + "9").rule(), -41);
        Check.due("7: that one stays", x.worth(0, 0), 7);
        Check.due("7: none", x.rule(), 0);
        Check.due("7: plain again", x.worth(0, 0), 16);
        rulesAfterRefused();
        ruleStaysWithTheNext();
    }

    /** What a refused rule left open is not in the next one. */
    private static void rulesAfterRefused() {
        String[] refused = {"((((", "c<", "c<(c<", Check.times("-", 40), "9-", "9-(8*(7-", "c<r<", Check.times("c+", 20)};
        for (String text : refused) {
            ToOneCrumb x = Check.table("3b*5", "234");
            Check.due("7: " + text, Check.say(x, text).rule() < 0, true);
            Check.due("7: behind " + text, Check.say(x, "(((c+r)*2<9))+(10>k)*5=5").rule(), 0);
            Check.due("7: behind " + text, x.worth(0, 0), 1);
            Check.due("7: behind " + text, Check.say(x, "c+r-1").rule(), 0);
            Check.due("7: behind " + text, x.worth(0, 0), 4);
        }
    }

    private static void ruleStaysWithTheNext() {
        ToOneCrumb x = new ToOneCrumb();
        Check.due("7: ahead of all", Check.say(x, "c+p*10+i*100").rule(), 0);
        Check.say(x, "98").loaf();
        Check.say(x, "000;000").guests();
        Check.due("7: it stays with a loaf", x.worth(1, 1), 118);
        Check.say(x, "77").loaf();
        Check.due("7: and with another one", x.worth(0, 1), 17);
    }

    private static void ruleIs(String text, int want) {
        Check.due("7: rule " + text, Check.say(new ToOneCrumb(), text).rule(), want);
    }

    private static void ruleFaults() {
        ruleIs("x", -1);
        ruleIs("1234", -4);
        ruleIs("cr", -2);
        ruleIs("c~r", -2);
        ruleIs("~c", -1);
        ruleIs("c1", -2);
        ruleIs("1c", -2);
        ruleIs("()", -2);
        ruleIs("(c", -3);
        ruleIs("c)", -2);
        ruleIs("(c))", -4);
        ruleIs("((((c))))", 0);
        ruleIs("(((((c)))))", -5);
        ruleIs("((((c))))+((((r))))", 0);
        ruleIs("c<r<k", -4);
        ruleIs("c<r+1=k", -6);
        ruleIs("(c<r)<k", 0);
        ruleIs("c<(r<k)", 0);
        ruleIs("(c<r<k)", -5);
        ruleIs("(c<r)=(k>1)", 0);
        ruleIs("c<", -3);
        ruleIs("<c", -1);
        ruleIs("+c", -1);
        ruleIs("-c", 0);
        ruleIs("----c", 0);
        ruleIs("c*--c", 0);
        ruleIs("c*+c", -3);
        ruleIs("-", -2);
        ruleIs("c-", -3);
        ruleIs(Check.times("-", 39) + "c", 0);
        ruleIs(Check.times("-", 40), -41);
        ruleIs(Check.times("-", 40) + "c", -41);
        ruleIs(Check.times("c+", 20), -41);
        ruleIs(Check.times("c+", 20) + "c", -41);
        ruleIs(Check.times("c+", 19) + "12", 0);
        ruleIs(Check.times("c+", 19) + "123", -41);
        ruleIs(Check.times("c+", 19) + "1c3", -40);
        ruleIs(Check.times("c+", 19) + "c)", -40);
        ruleIs(Check.times("c+", 19) + "(c)", -41);
        ruleIs(Check.times("c+", 19) + "--", -41);
        ruleIs("/", -1);
        ruleIs(":", -1);
        ruleIs("1:", -2);
        ruleIs("1/:", -3);
        ruleIs("0", 0);
        ruleIs("000", 0);
        ruleIs("0000", -4);
        ruleIs("(", -2);
        ruleIs(")", -1);
        ruleIs("(c)r", -4);
        ruleIs("(c)(r)", -4);
        ruleIs("c(r)", -2);
        ruleIs("1(r)", -2);
        ruleIs("((((c)+((r", -9);
        ruleIs("((((c)+(r))))", 0);
        ruleIs("((((c)+(r)))", -13);
        ruleIs("(c<r)+(c<r)", 0);
        ruleIs("(c<r)<(c<r)", 0);
        ruleIs("(c<r)<1<2", -8);
        ruleIs("((c<r)<1)<2", 0);
        ruleIs("c<>r", -3);
        ruleIs("c==r", -3);
        ruleIs("c<-r", 0);
        ruleIs("-(c)", 0);
        ruleIs("-)", -2);
        ruleIs("c*/r", -3);
        ruleIs("c r", -2);
        ruleIs("C", -1);
        ruleIs("f", -1);
        ruleIs("c" + (char) 255, -2);
        ruleIs("c" + (char) 0, -2);
    }

    private static void worthBy(String rule, int want) {
        ToOneCrumb x = Check.table("5a43b*7", "100;234");
        Check.due("7: rule " + rule, Check.say(x, rule).rule(), 0);
        Check.due("7: worth by " + rule, x.worth(1, 2), want);
    }

    private static void ruleValues() {
        // guest 1 (tastes 2, 3, 4) and cell 2 (3 crumbs, 2 raisins, crust) of 4 cells
        worthBy("c", 3);
        worthBy("r", 2);
        worthBy("k", 1);
        worthBy("a", 2);
        worthBy("b", 3);
        worthBy("d", 4);
        worthBy("i", 1);
        worthBy("p", 2);
        worthBy("e", 0);
        worthBy("c*a+r*b+k*d", 16);
        worthBy("10-2-3", 5);
        worthBy("100/10/5", 2);
        worthBy("2+3*4", 14);
        worthBy("(2+3)*4", 20);
        worthBy("7/2", 3);
        worthBy("10+-7/2", 7);
        worthBy("-7/2+10", 7);
        worthBy("10--3", 13);
        worthBy("2*-3+10", 4);
        worthBy("5/0", 0);
        worthBy("5/(c-3)+9", 9);
        worthBy("1<2", 1);
        worthBy("2<1", 0);
        worthBy("2>1", 1);
        worthBy("2=2", 1);
        worthBy("1+1=2", 1);
        worthBy("(1<2)+(2<3)", 2);
        worthBy("0-5", 0);
        worthBy("-5", 0);
        worthBy("999+1", 999);
        worthBy("999*999", 999);
        worthBy("999*999*999*999", 0);
        worthBy("999*999*999*999/-999/999", 427);
        worthBy("007", 7);
        worthBy("2<2", 0);
        worthBy("2>2", 0);
        worthBy("1>2", 0);
        worthBy("1=2", 0);
        worthBy("5+(2<1)", 5);
        worthBy("5+(1>2)", 5);
        worthBy("5+(1=2)", 5);
        worthBy("5+e", 5);
        worthBy("5-(2<3)", 4);
        worthBy("0/0+3", 3);
        worthBy("7-5/0", 7);
        worthBy("2/3", 0);
        worthBy("9+-2/3", 9);
        worthBy("9+7/-2", 6);
        worthBy("9-7/2*2", 3);
        worthBy("9-2*3", 3);
        worthBy("500+499", 999);
        worthBy("500+500", 999);
        worthBy("1-1", 0);
        worthBy("1-2", 0);
        worthBy("-1<0", 1);
        worthBy("-(2-5)", 3);
        worthBy("--c", 3);
        worthBy("---c+9", 6);
        worthBy("((((c))))*((((r))))", 6);
        // as ints: 128 * 128 * 128 * 128 * 8 is the least int, one less the greatest
        worthBy("128*128*128*128*8-1", 999);
        worthBy("128*128*128*128*8", 0);
        worthBy("128*128*128*128*8/-1", 0);
        worthBy("-(128*128*128*128*8)", 0);
        worthBy("-(128*128*128*128*8)<0", 1);
        worthBy(Check.times("-", 38) + "c", 3);
        worthBy(Check.times("-", 39) + "c", 0);
        worthBy(Check.times("c+", 19) + "12", 69);
        worthBy("1+(2+(3+(4+(5*2))))", 20);
        worthBy("1-(2-(3-(4-(5-7))))", 0);
        worthBy("9-(1-(2-(3-(4-5))))", 6);
        ToOneCrumb x = Check.table("1234", "100");
        Check.say(x, "e").rule();
        Check.due("7: e of the first", x.worth(0, 0), 1);
        Check.due("7: e of the second", x.worth(0, 1), 0);
        Check.due("7: e of the last", x.worth(0, 3), 1);
        Check.say(x, "7").loaf();
        Check.due("7: e of an only one", x.worth(0, 0), 1);
    }

    private static void cells() {
        ToOneCrumb x = Check.table("3b*5", "100");
        Check.due("8: crumbs", x.cell(0, 0), 3);
        Check.due("8: raisins", x.cell(0, 1), 2);
        Check.due("8: crust", x.cell(0, 2), 1);
        Check.due("8: on the board", x.cell(0, 3), -1);
        Check.due("8: no raisins", x.cell(1, 1), 0);
        Check.due("8: no crust", x.cell(1, 2), 0);
        x.give(0, 0, 0);
        x.mouse(1);
        Check.due("8: with one", x.cell(0, 3), 0);
        Check.due("8: with the mouse", x.cell(1, 3), 9);
        Check.dueNoCell(x, 2, 0);
        Check.dueNoCell(x, -1, 0);
        Check.dueNoCell(x, 0, 4);
        Check.dueNoCell(x, 0, -1);
    }

    private static void guests() {
        ToOneCrumb x = Check.table("3b*51", "234;100", "fa2;yb1");
        long[] before = {2, 3, 4, 6, 0, 0, 28, 0};
        for (int what = 0; what < 8; what++) {
            Check.due("9: guest(0, " + what + ")", x.guest(0, what), before[what]);
        }
        x.give(0, 1, 2);
        Check.due("9: cells", x.guest(0, 4), 2);
        Check.due("9: worth", x.guest(0, 5), 12);
        Check.due("9: not its due", x.guest(0, 7), 0);
        x.give(1, 0, 0);
        Check.due("9: just more than its due", x.guest(1, 7), 1);
        Check.dueNoGuest(x, 2, 0);
        Check.dueNoGuest(x, -1, 0);
        Check.dueNoGuest(x, 0, 8);
        Check.dueNoGuest(x, 0, -1);
        ToOneCrumb y = Check.table("11", "100;100");
        y.give(0, 0, 0);
        Check.due("9: just its due", y.guest(0, 7), 1);
        Check.say(y, "22").loaf();
        Check.say(y, "fa9;yb9").deeds();
        y.give(0, 0, 0);
        y.give(1, 1, 1);
        Check.due("9: less than its due", y.guest(0, 7), 0);
        Check.due("9: more than its due", y.guest(1, 7), 1);
        Check.due("9: the mouse's are nobody's", y.mouse(0), -2);
        y.taste(0, 0, 0);
        Check.due("9: of nothing worth anything", y.guest(0, 7), 1);
        y.deeds();
        Check.due("9: nothing is due", y.guest(1, 7), 1);
    }

    private static void worths() {
        ToOneCrumb x = Check.table("3b*5", "234");
        Check.due("10: worth", x.worth(0, 0), 16);
        Check.due("10: worth", x.worth(0, 1), 10);
        Check.due("10: no such cell", x.worth(0, 2), -1);
        Check.due("10: no such cell", x.worth(0, -1), -1);
        Check.due("10: no such guest", x.worth(1, 0), -1);
        Check.due("10: no such guest", x.worth(-1, 0), -1);
    }

    private static void tastes() {
        ToOneCrumb x = Check.table("3b*5", "234");
        Check.due("11: taste", x.taste(0, 1, 9), 3);
        Check.due("11: as told", x.guest(0, 1), 9);
        Check.due("11: worth", x.worth(0, 0), 28);
        Check.due("11: v", x.taste(0, 1, 10), -1);
        Check.due("11: v", x.taste(0, 1, -1), -1);
        Check.due("11: what", x.taste(0, 3, 1), -1);
        Check.due("11: what", x.taste(0, -1, 1), -1);
        Check.due("11: guest", x.taste(1, 0, 1), -1);
        Check.due("11: guest", x.taste(-1, 0, 1), -1);
        Check.due("11: stays", x.guest(0, 1), 9);
        Check.due("11: to 0", x.taste(0, 0, 0), 2);
        Check.due("11: and from 0 to 9", x.taste(0, 0, 9), 0);
        Check.due("11: and from 9", x.taste(0, 0, 3), 9);
        Check.due("11: the last taste", x.taste(0, 2, 9), 4);
        Check.due("11: v far above", x.taste(0, 0, Integer.MAX_VALUE), -1);
        Check.due("11: v far below", x.taste(0, 0, Integer.MIN_VALUE), -1);
        Check.due("11: worth", x.worth(0, 0), 9 + 18 + 9);
    }

    private static void raisins(ToOneCrumb x, int... want) {
        for (int cell = 0; cell < want.length; cell++) {
            Check.due("12: raisins of " + cell, x.cell(cell, 1), want[cell]);
        }
    }

    private static void sheets() {
        ToOneCrumb x = Check.table("1a1b1c1d", "010");
        Check.due("12: bytes", x.sheet(0, 3, 1, 2), 9);
        raisins(x, 1, 3, 5, 0);
        Check.due("12: worth", x.worth(0, 2), 5);
        Check.due("12: bytes cut", x.sheet(0, 4, 255, 1), 3);
        raisins(x, 0, 0, 1, 2);
        Check.due("12: bytes with their sign", x.sheet(0, 2, 127, 1), 9);
        raisins(x, 9, 0, 0, 0);
        Check.due("12: shorts cut", x.sheet(1, 4, 65535, 1), 3);
        raisins(x, 0, 0, 1, 2);
        Check.due("12: shorts of 255", x.sheet(1, 1, 255, 0), 9);
        Check.due("12: ints", x.sheet(2, 2, 65535, 1), 18);
        raisins(x, 9, 9, 0, 0);
        Check.due("12: ints wrap", x.sheet(2, 2, Integer.MAX_VALUE, 1), 9);
        raisins(x, 9, 0, 0, 0);
        Check.due("12: more than cells", x.sheet(2, 16, 1, 0), 4);
        Check.due("12: n above 16", x.sheet(2, 17, 1, 0), -1);
        Check.due("12: n above 16, missing", x.sheet(3, 17, 1, 0), -1);
        Check.due("12: another kind", x.sheet(4, 1, 1, 0), -1);
        Check.due("12: another kind", x.sheet(-1, -1, 1, 0), -1);
        Check.due("12: n below 0", x.sheet(0, -1, 1, 0), -2);
        Check.due("12: n below 0", x.sheet(2, Integer.MIN_VALUE, 1, 0), -2);
        raisins(x, 1, 1, 1, 1);
        Check.due("12: missing", x.sheet(3, -5, 1, 0), -3);
        raisins(x, 0, 0, 0, 0);
        Check.due("12: no entries", x.sheet(1, 0, 5, 5), 0);
        x.sheet(0, 4, 7, 0);
        Check.due("12: no entries, though there were raisins", x.sheet(0, 0, 5, 5), 0);
        raisins(x, 0, 0, 0, 0);
        x.sheet(0, 4, 7, 0);
        Check.due("12: refused ones first", x.sheet(4, -1, 1, 0), -1);
        Check.due("12: refused ones first", x.sheet(3, Integer.MAX_VALUE, 1, 0), -1);
        Check.due("12: refused ones first", x.sheet(-1, 1, 1, 0), -1);
        Check.due("12: refused ones first", x.sheet(0, 17, 1, 0), -1);
        Check.due("12: n below 0", x.sheet(1, -1, 1, 0), -2);
        raisins(x, 7, 7, 7, 7);
        Check.due("12: missing, of 16", x.sheet(3, 16, 9, 9), -3);
        raisins(x, 0, 0, 0, 0);
        Check.due("12: worth", x.worth(0, 0), 0);
        sheetEdges();
        sheetOfSixteen();
    }

    private static void sheetEdges() {
        ToOneCrumb x = Check.table("1111", "010");
        Check.due("12: bytes of 128 are -128", x.sheet(0, 1, 128, 0), 0);
        Check.due("12: bytes of 127", x.sheet(0, 1, 127, 0), 9);
        Check.due("12: bytes of -256", x.sheet(0, 4, -256, 1), 6);
        Check.due("12: shorts of 32767 and 32768", x.sheet(1, 2, 32767, 1), 9);
        raisins(x, 9, 0, 0, 0);
        Check.due("12: shorts of -65536", x.sheet(1, 4, -65536, 3), 18);
        raisins(x, 0, 3, 6, 9);
        Check.due("12: ints of 32768, 65536", x.sheet(2, 2, 32768, 32768), 18);
        Check.due("12: 8, 9, 10, 11 are put to 9", x.sheet(2, 4, 8, 1), 35);
        raisins(x, 8, 9, 9, 9);
        Check.due("12: 1, 0, -1, -2 are put to 0", x.sheet(2, 4, 1, -1), 1);
        raisins(x, 1, 0, 0, 0);
        Check.due("12: the least int and its step", x.sheet(2, 4, Integer.MIN_VALUE, Integer.MIN_VALUE), 0);
        Check.due("12: down from the least int", x.sheet(2, 2, Integer.MIN_VALUE, -1), 9);
        raisins(x, 0, 9, 0, 0);
        Check.say(x, "").loaf();
        Check.due("12: no cells", x.sheet(2, 16, 1, 1), 0);
    }

    private static void sheetOfSixteen() {
        ToOneCrumb x = Check.table(Check.times("1", 16), "010");
        Check.due("12: sixteen", x.sheet(2, 16, 3, 0), 48);
        Check.due("12: the last", x.cell(15, 1), 3);
        Check.due("12: fifteen", x.sheet(2, 15, 3, 0), 45);
        Check.due("12: the last behind them", x.cell(15, 1), 0);
        Check.due("12: seventeen", x.sheet(2, 17, 3, 0), -1);
        Check.due("12: whole", x.guest(0, 6), 45);
    }
}
