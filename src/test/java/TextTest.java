/** Promises 6 to 8: the tape, a route that is read, and faults. */
public final class TextTest {
    private static final String SEVEN = "c0,0;o0,1,1;m0,1,1;l0,1,1;f0,1,1;v0,1,1;o0,1,1;o0,1,1;";

    public static void main(String[] args) {
        feed();
        route();
        numbers();
        numbersOfEachPlace();
        bytesOfEachPlace();
        theLongestText();
        theEnd();
        afterWhatWasForetold();
        faults();
        oathsMore();
        faultLeavesAll();
        Check.finish();
    }

    private static void feed() {
        OathCoach x = new OathCoach();
        Check.same("below", x.feed(-1), Check.BAD);
        Check.same("above", x.feed(256), Check.BAD);
        for (int i = 1; i <= 100; i++) {
            Check.same("feed " + i, x.feed(i % 2 == 0 ? 255 : 0), i);
        }
        Check.same("full", x.feed(99), Check.FULL);
        Check.same("BAD is ahead of FULL", x.feed(256), Check.BAD);
        Check.same("bytes", x.count(7), 100);
        Check.same("route", x.route(), -1000100);
        Check.same("bytes then", x.count(7), 0);
        Check.same("feed", x.feed(99), 1);
    }

    private static void route() {
        OathCoach x = new OathCoach();
        Check.same("seven", Check.told(x, SEVEN), 7);
        Check.same("oaths", x.count(1), 7);
        Check.same("open", x.count(2), 127);
        int[] kinds = {1, 2, 3, 4, 5, 1, 1};
        for (int i = 0; i < 7; i++) {
            Check.same("kind", x.kind(i), kinds[i]);
        }
        x.hours(3);
        x.snow(4, 1);
        Check.same("in place of the one before", Check.told(x, "c3,8;l9,20,60;v2,7,5;"), 2);
        Check.same("where", x.coach(0), 3);
        Check.same("home", x.coach(4), 8);
        Check.same("snow", x.coach(3), 0);
        Check.same("hour", x.count(3), 0);
        Check.same("kept", x.count(4), 0);
        Check.same("broken", x.count(5), 0);
        Check.same("acts", x.count(6), 0);
        Check.same("undo", x.undo(), Check.STATE);
        int[] told = {9, 20, 60, 0, 2, 7, 5, 0};
        for (int i = 0; i < 8; i++) {
            Check.same("oath " + i, x.oath(i / 4, i % 4), told[i]);
        }
    }

    private static void numbers() {
        OathCoach x = new OathCoach();
        Check.same("figures before", Check.told(x, "c05,09;o00,01,01;"), 1);
        Check.same("where", x.coach(0), 5);
        Check.same("home", x.coach(4), 9);
        Check.same("weight", x.oath(0, 1), 1);
    }

    /** Each NUMBER of a text, from 0 to 99, with one figure and with two, and with three. */
    private static void numbersOfEachPlace() {
        String[] ahead = {"c", "c0,", "c0,0;o", "c0,0;o0,", "c0,0;o0,1,", "c0,0;m3,1,1;v"};
        String[] behind = {",0;o0,1,1;", ";o0,1,1;", ",1,1;", ",1;", ";", ",1,1;"};
        int[] least = {0, 0, 0, 1, 1, 0};
        int[] most = {9, 9, 9, 20, 60, 9};
        for (int slot = 0; slot < 6; slot++) {
            for (int v = 0; v < 100; v++) {
                boolean asTold = v >= least[slot] && v <= most[slot];
                String two = (v < 10 ? "0" : "") + v;
                for (String figures : new String[] {"" + v, two}) {
                    String text = ahead[slot] + figures + behind[slot];
                    if (asTold) {
                        readAs(text, slot, v);
                    } else {
                        fault(text, ahead[slot].length(), 2);
                    }
                }
                fault(ahead[slot] + "0" + two + behind[slot], ahead[slot].length(), 1);
            }
        }
    }

    private static void readAs(String text, int slot, int v) {
        OathCoach x = new OathCoach();
        Check.same("route of " + text, Check.told(x, text), slot == 5 ? 2 : 1);
        int[] read = {x.coach(0), x.coach(4), x.oath(0, 0), x.oath(0, 1), x.oath(0, 2), x.oath(1, 0)};
        Check.same("number " + slot + " of " + text, read[slot], v);
        Check.same("no fault in " + text, x.fault(), 0);
    }

    /** Each byte, 0 to 255, where a letter, a SIGN, or a NUMBER is to stand. */
    private static void bytesOfEachPlace() {
        String text = "c1,2;o3,4,5;v6,7,8;";
        for (int at = 0; at < text.length(); at++) {
            char due = text.charAt(at);
            for (int b = 0; b < 256; b++) {
                boolean figure = b >= '0' && b <= '9';
                boolean sort = "omlfv".indexOf(b) >= 0;
                if (b == due || (due == 'o' || due == 'v') && sort) {
                    continue;
                }
                boolean longer = figure && (due == ',' || due == ';');
                if (!longer && !(figure && due >= '0' && due <= '9')) {
                    fault(text.substring(0, at) + (char) b + text.substring(at + 1), at, 1);
                }
            }
        }
    }

    private static void theLongestText() {
        String longest = "c09,09;" + "m09,20,60;".repeat(7);
        Check.same("its bytes", longest.length(), 77);
        OathCoach x = new OathCoach();
        Check.same("all are read", Check.told(x, longest), 7);
        Check.says(x, "oath 6 0 = 9", "oath 6 1 = 20", "oath 6 2 = 60", "coach 2 = 127", "kind 6 = 2", "kind 7 = BAD");
        fault(longest + "m", 77, 3);
        fault(longest + ";".repeat(23), 77, 1);
        fault(longest + "v" + "0".repeat(22), 77, 3);
        fault("c" + "0".repeat(99), 1, 1);
        fault("0".repeat(100), 0, 1);
    }

    /** What a longer text before had there is no more on the tape. */
    private static void theEnd() {
        String text = "c1,2;o3,4,15;v6,17,8;";
        for (int bytes = 0; bytes < text.length(); bytes++) {
            OathCoach x = Check.coachOf(text);
            boolean whole = bytes == 13;
            Check.same("the end behind " + bytes, Check.told(x, text.substring(0, bytes)),
                whole ? 1 : -1000100 - bytes);
            Check.same("its fault", x.fault(), whole ? 0 : 1);
        }
    }

    /** A ROUTE begins anew, whatever was foretold before it. */
    private static void afterWhatWasForetold() {
        OathCoach x = Check.coachOf("c4,6;f5,1,1;v6,1,1;o4,1,1;");
        Check.says(x, "snow 3 1 = 8", "hours 9 = 6", "ahead 60 = 6", "tell c3,8;l9,20,60; = 1", "count 1 = 1",
            "count 2 = 1", "count 3 = 0", "count 4 = 0", "count 5 = 0", "count 6 = 0", "coach 0 = 3", "coach 3 = 0",
            "coach 4 = 8", "oath 0 4 = 10", "oath 1 0 = BAD");
    }

    private static void fault(String text, int place, int number) {
        OathCoach x = new OathCoach();
        Check.same("route of " + text, Check.told(x, text), -1000100 - place);
        Check.same("fault of " + text, x.fault(), number);
        Check.same("the tape behind " + text, x.count(7), 0);
        Check.same("no route of " + text, x.count(1), 0);
    }

    private static void faults() {
        fault("", 0, 1);
        fault("c", 1, 1);
        fault("x", 0, 1);
        fault("5", 0, 1);
        fault("C0,0;", 0, 1);
        fault("c,0;", 1, 1);
        fault("cc", 1, 1);
        fault("c0;", 2, 1);
        fault("c0,", 3, 1);
        fault("c0,0,", 4, 1);
        fault("c0,0;", 5, 1);
        fault("c0,0;c", 5, 1);
        fault("c0,0;x0,1,1;", 5, 1);
        fault("c0,0; o0,1,1;", 5, 1);
        fault("c0,0;o0,1,1", 11, 1);
        fault("c0,0;o0,1,1;o", 13, 1);
        fault("c0,0;o0,1,1;;", 12, 1);
        fault("c0,0;o0,1;", 9, 1);
        fault("c0,0;o0 ,1,1;", 7, 1);
        fault("c10,0;", 1, 2);
        fault("c0,10;", 3, 2);
        fault("c100,0;", 1, 1);
        fault("c000,0;", 1, 1);
        fault("c12345678901234567890,0;", 1, 1);
        fault("123", 0, 1);
        fault("c0,0;o10,1,1;", 6, 2);
        fault("c0,0;o0,0,1;", 8, 2);
        fault("c0,0;o0,21,1;", 8, 2);
        fault("c0,0;o0,001,1;", 8, 1);
        fault("c0,0;o0,1,0;", 10, 2);
        fault("c0,0;o0,1,61;", 10, 2);
        fault("c0,0;o0,20,061;", 11, 1);
        fault("c10,x", 1, 2);
        fault("c0,x10", 3, 1);
        fault("c" + (char) 200, 1, 1);
        fault("c0,0;99", 5, 1);
        fault("c0,0;o0,1,1;00", 12, 1);
        fault("c0,0;o0,1,1;100", 12, 1);
        fault("c0,0;o0,1,1;o10,x", 13, 2);
        fault("c0,0;o0,1,1;o9,99,99;", 15, 2);
    }

    private static void oathsMore() {
        fault(SEVEN + "o", SEVEN.length(), 3);
        fault(SEVEN + "v10,99,99;", SEVEN.length(), 3);
        fault(SEVEN + "x", SEVEN.length(), 1);
        fault(SEVEN + "c", SEVEN.length(), 1);
        fault(SEVEN + "7", SEVEN.length(), 1);
        fault(SEVEN + "99", SEVEN.length(), 1);
        fault(SEVEN + ",", SEVEN.length(), 1);
        fault(SEVEN.substring(0, SEVEN.length() - 1) + "o", SEVEN.length() - 1, 1);
    }

    private static void faultLeavesAll() {
        OathCoach x = Check.coachOf("c2,0;o9,5,5;");
        x.hours(2);
        Check.same("before a fault", x.fault(), 0);
        Check.same("a fault", Check.told(x, "c9,9;o77,1,1;"), -1000106);
        Check.same("its number", x.fault(), 2);
        Check.same("where", x.coach(0), 4);
        Check.same("hour", x.count(3), 2);
        Check.same("acts", x.count(6), 2);
        Check.same("oath", x.oath(0, 0), 9);
        Check.same("a good one", Check.told(x, "c9,9;o7,1,1;"), 1);
        Check.same("the latest fault", x.fault(), 2);
        Check.told(x, "o");
        Check.same("the latest fault", x.fault(), 1);
    }
}
