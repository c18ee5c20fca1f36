import java.util.NoSuchElementException;

/** What the tests share: tables laid from texts, answers compared, and the exit code. */
final class Check {
    private static int wrong = 0;
    private static int asked = 0;

    private Check() {
    }

    static void due(String call, long got, long want) {
        asked++;
        if (got != want) {
            wrong++;
            System.out.println(call + " answered " + got + ", due is " + want);
        }
    }

    static void due(String call, boolean got, boolean want) {
        due(call, got ? 1 : 0, want ? 1 : 0);
    }

    static void dueRow(String call, ToOneCrumb x, long... want) {
        due(call + ": numbers of the row", x.count(8), want.length);
        for (int i = 0; i < want.length && i < x.count(8); i++) {
            due(call + ": row(" + i + ")", x.row(i), want[i]);
        }
        dueNoNumber(call, x, want.length);
        dueNoNumber(call, x, -1);
    }

    static void dueNoNumber(String call, ToOneCrumb x, int i) {
        boolean thrown = false;
        try {
            x.row(i);
        } catch (NoSuchElementException e) {
            thrown = true;
        }
        due(call + ": row(" + i + ") throws", thrown, true);
    }

    static void dueNoCell(ToOneCrumb x, int cell, int what) {
        boolean thrown = false;
        try {
            x.cell(cell, what);
        } catch (NoSuchElementException e) {
            thrown = true;
        }
        due("cell(" + cell + ", " + what + ") throws", thrown, true);
    }

    static void dueNoGuest(ToOneCrumb x, int guest, int what) {
        boolean thrown = false;
        try {
            x.guest(guest, what);
        } catch (NoSuchElementException e) {
            thrown = true;
        }
        due("guest(" + guest + ", " + what + ") throws", thrown, true);
    }

    /** Puts a text behind what is there; signs are characters 0 to 255. */
    static ToOneCrumb say(ToOneCrumb x, String text) {
        int before = x.count(9);
        for (int i = 0; i < text.length(); i += 4) {
            int v = 0;
            for (int k = i; k < i + 4; k++) {
                v = v << 8 | (k < text.length() ? text.charAt(k) : 0);
            }
            x.sign(v);
        }
        x.end(before + text.length());
        return x;
    }

    static ToOneCrumb table(String loaf, String guests) {
        ToOneCrumb x = new ToOneCrumb();
        say(x, loaf).loaf();
        say(x, guests).guests();
        return x;
    }

    static ToOneCrumb table(String loaf, String guests, String deeds) {
        ToOneCrumb x = table(loaf, guests);
        say(x, deeds).deeds();
        return x;
    }

    static void holders(String call, ToOneCrumb x, int... want) {
        for (int cell = 0; cell < want.length; cell++) {
            due(call + ": with whom " + cell + " is", x.cell(cell, 3), want[cell]);
        }
    }

    static String times(String part, int n) {
        return part.repeat(n);
    }

    static void finish(String test) {
        System.out.println(test + ": " + asked + " answers, " + wrong + " wrong");
        if (wrong > 0) {
            System.exit(1);
        }
    }
}
