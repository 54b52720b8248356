/** Promises 6 to 8: the tape, a route that is read, and faults. */
public final class TextTest {
    private static final String SEVEN = "c0,0;o0,1,1;m0,1,1;l0,1,1;f0,1,1;v0,1,1;o0,1,1;o0,1,1;";

    public static void main(String[] args) {
        feed();
        route();
        numbers();
        faults();
        oathsMore();
        faultLeavesAll();
        Check.finish();
    }

    private static void feed() {
        OathCoach x = new OathCoach();
        Check.same("below", x.feed(-1), Check.BAD);
        Check.same("above", x.feed(256), Check.BAD);
        for (int i = 1; i <= 100; i++) {
            Check.same("feed " + i, x.feed(i % 2 == 0 ? 255 : 0), i);
        }
        Check.same("full", x.feed(99), Check.FULL);
        Check.same("BAD is ahead of FULL", x.feed(256), Check.BAD);
        Check.same("bytes", x.count(7), 100);
        Check.same("route", x.route(), -1000100);
        Check.same("bytes then", x.count(7), 0);
        Check.same("feed", x.feed(99), 1);
    }

    private static void route() {
        OathCoach x = new OathCoach();
        Check.same("seven", Check.told(x, SEVEN), 7);
        Check.same("oaths", x.count(1), 7);
        Check.same("open", x.count(2), 127);
        int[] kinds = {1, 2, 3, 4, 5, 1, 1};
        for (int i = 0; i < 7; i++) {
            Check.same("kind", x.kind(i), kinds[i]);
        }
        x.hours(3);
        x.snow(4, 1);
        Check.same("in place of the one before", Check.told(x, "c3,8;l9,20,60;v2,7,5;"), 2);
        Check.same("where", x.coach(0), 3);
        Check.same("home", x.coach(4), 8);
        Check.same("snow", x.coach(3), 0);
        Check.same("hour", x.count(3), 0);
        Check.same("kept", x.count(4), 0);
        Check.same("broken", x.count(5), 0);
        Check.same("acts", x.count(6), 0);
        Check.same("undo", x.undo(), Check.STATE);
        int[] told = {9, 20, 60, 0, 2, 7, 5, 0};
        for (int i = 0; i < 8; i++) {
            Check.same("oath " + i, x.oath(i / 4, i % 4), told[i]);
        }
    }

    private static void numbers() {
        OathCoach x = new OathCoach();
        Check.same("figures before", Check.told(x, "c05,09;o00,01,01;"), 1);
        Check.same("where", x.coach(0), 5);
        Check.same("home", x.coach(4), 9);
        Check.same("weight", x.oath(0, 1), 1);
    }

    private static void fault(String text, int place, int number) {
        OathCoach x = new OathCoach();
        Check.same("route of " + text, Check.told(x, text), -1000100 - place);
        Check.same("fault of " + text, x.fault(), number);
        Check.same("the tape behind " + text, x.count(7), 0);
        Check.same("no route of " + text, x.count(1), 0);
    }

    private static void faults() {
        fault("", 0, 1);
        fault("c", 1, 1);
        fault("x", 0, 1);
        fault("5", 0, 1);
        fault("C0,0;", 0, 1);
        fault("c,0;", 1, 1);
        fault("cc", 1, 1);
        fault("c0;", 2, 1);
        fault("c0,", 3, 1);
        fault("c0,0,", 4, 1);
        fault("c0,0;", 5, 1);
        fault("c0,0;c", 5, 1);
        fault("c0,0;x0,1,1;", 5, 1);
        fault("c0,0; o0,1,1;", 5, 1);
        fault("c0,0;o0,1,1", 11, 1);
        fault("c0,0;o0,1,1;o", 13, 1);
        fault("c0,0;o0,1,1;;", 12, 1);
        fault("c0,0;o0,1;", 9, 1);
        fault("c0,0;o0 ,1,1;", 7, 1);
        fault("c10,0;", 1, 2);
        fault("c0,10;", 3, 2);
        fault("c100,0;", 1, 1);
        fault("c000,0;", 1, 1);
        fault("c12345678901234567890,0;", 1, 1);
        fault("123", 0, 1);
        fault("c0,0;o10,1,1;", 6, 2);
        fault("c0,0;o0,0,1;", 8, 2);
        fault("c0,0;o0,21,1;", 8, 2);
        fault("c0,0;o0,001,1;", 8, 1);
        fault("c0,0;o0,1,0;", 10, 2);
        fault("c0,0;o0,1,61;", 10, 2);
        fault("c0,0;o0,20,061;", 11, 1);
        fault("c10,x", 1, 2);
        fault("c0,x10", 3, 1);
        fault("c" + (char) 200, 1, 1);
    }

    private static void oathsMore() {
        fault(SEVEN + "o", SEVEN.length(), 3);
        fault(SEVEN + "v10,99,99;", SEVEN.length(), 3);
        fault(SEVEN + "x", SEVEN.length(), 1);
        fault(SEVEN + "c", SEVEN.length(), 1);
        fault(SEVEN + "7", SEVEN.length(), 1);
    }

    private static void faultLeavesAll() {
        OathCoach x = Check.coachOf("c2,0;o9,5,5;");
        x.hours(2);
        Check.same("before a fault", x.fault(), 0);
        Check.same("a fault", Check.told(x, "c9,9;o77,1,1;"), -1000106);
        Check.same("its number", x.fault(), 2);
        Check.same("where", x.coach(0), 4);
        Check.same("hour", x.count(3), 2);
        Check.same("acts", x.count(6), 2);
        Check.same("oath", x.oath(0, 0), 9);
        Check.same("a good one", Check.told(x, "c9,9;o7,1,1;"), 1);
        Check.same("the latest fault", x.fault(), 2);
        Check.told(x, "o");
        Check.same("the latest fault", x.fault(), 1);
    }
}
