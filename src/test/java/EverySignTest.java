/** Promises 4 to 7, 16, 31, 37: behind beginnings of each kind of text, each of the 256 signs can stand or not. */
public final class EverySignTest {
    private static final String[][] BEGINNINGS = {
        {"loaf", "", "1", "1a", "1*", "1a*", "1111111111111111", "111111111111111i"},
        {"guests", "", "1", "12", "123", "123;", "123;123", "123;123;123", "123;123;123;"},
        {"deeds", "", "f", "y", "x", "g", "fa", "xa", "xb", "gc", "xab", "fa1", "fa1;", "gca1", "gca1;x"},
        {"rule", "", "c", "1", "12", "123", "-", "--", "(", "(c", "((((", "((((1", "c+", "c-", "c*", "c/", "c<", "c<r",
            "c<r+", "(c<r", "(c<r)", "(c<r)=", "c=(r", "c=(r>1"},
        {"supper", "", "g", "ga", "gf1", "gf12", "gf1-", "gf1-2", "gf1-23", "b", "b1", "b12", "b1-", "b1-23", "m", "m1",
            "m12", "m1;", "m1;b1-1"},
        {"byturns", "", "a", "abc", "aaaaaaaaaaaaaaa", "aaaaaaaaaaaaaaaa"},
        {"claims", "", "a", "a1", "a12", "a123", "a1,", "a1,b2", "a1,a1,a1,a1,a1,a1", "a1,a1,a1,a1,a1,a1,"}};

    public static void main(String[] args) {
        for (String[] beginnings : BEGINNINGS) {
            for (int n = 1; n < beginnings.length; n++) {
                for (char sign = 0; sign < 256; sign++) {
                    compare(beginnings[0], beginnings[n] + sign, beginnings[n] + " and sign " + (int) sign);
                    compare(beginnings[0], beginnings[n] + sign + "1", beginnings[n] + ", 1 behind sign " + (int) sign);
                }
            }
        }
        Check.finish("EverySignTest");
    }

    private static void compare(String call, String text, String told) {
        ToOneCrumb real = Check.table("1a2*3", "123;456;789");
        Naive naive = new Naive();
        naive.text = "1a2*3";
        naive.call("loaf");
        naive.text = "123;456;789";
        naive.call("guests");
        naive.text = text;
        Check.say(real, text);
        Check.due(call + ": " + told, answer(real, call), naive.call(call));
        Check.due(call + ": " + told + ", its worth", real.worth(1, 1), naive.call("worth", 1, 1));
    }

    private static int answer(ToOneCrumb real, String call) {
        return switch (call) {
            case "loaf" -> real.loaf();
            case "guests" -> real.guests();
            case "deeds" -> real.deeds();
            case "rule" -> real.rule();
            case "supper" -> real.supper();
            case "byturns" -> real.byturns();
            default -> real.claims();
        };
    }
}
