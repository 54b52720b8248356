/** Promises 16 to 33: what is foretold, and images. */
public final class ForetoldTest {
    private static final String STRAIGHT = "c0,5;o9,5,60;";
    /** The first vow has it back at 0 in each even hour. */
    private static final String TO_AND_FRO = "c0,0;v0,1,1;v9,1,1;";
    /** As it is: 6, 5, 4, 5, 6, 7, 8, 9. */
    private static final String THREE = "c5,0;o6,5,60;o4,4,60;o9,3,60;";

    public static void main(String[] args) {
        aheadAndComesTo();
        theSixtiethHour();
        keptAndPast();
        visitsAndRest();
        least();
        theTwentyFourthHour();
        buyOff();
        holds();
        broke();
        sworn();
        who();
        twelveHoursAtTheEndOfARow();
        itemsThatAreNoPlaces();
        toldRowsRefused();
        late();
        lateAtTheEdge();
        lies();
        order();
        drawn();
        drawnByLargeNumbers();
        images();
        allOfAnImage();
        nothingChanges();
        Check.finish();
    }

    private static void aheadAndComesTo() {
        OathCoach x = Check.coachOf(STRAIGHT);
        int[] hours = {0, 1, 8, 9, 10, 60};
        int[] where = {0, 1, 8, 9, 9, 9};
        int[] came = {0, 0, 0, 1, 1, 1};
        for (int i = 0; i < 6; i++) {
            Check.same("ahead " + hours[i], x.ahead(hours[i]), where[i]);
            Check.same("comesTo " + hours[i], x.comesTo(0, hours[i]), came[i]);
        }
        Check.same("below", x.ahead(-1), Check.BAD);
        Check.same("above", x.ahead(61), Check.BAD);
        Check.same("below", x.comesTo(0, -1), Check.BAD);
        Check.same("above", x.comesTo(0, 61), Check.BAD);
        Check.same("no such oath", x.comesTo(1, 0), Check.BAD);
        Check.same("no such oath", x.comesTo(-1, 0), Check.BAD);
        x = Check.coachOf("c1,0;f0,1,1;v0,3,1;o5,1,9;");
        Check.same("broken", x.comesTo(0, 1), 2);
        Check.same("kept", x.comesTo(1, 1), 1);
        Check.same("open again", x.comesTo(1, 4), 0);
        x.buy(2);
        Check.same("bought off", x.comesTo(2, 60), 3);
    }

    /** A letter of WEIGHT 1 does not pull until it is DUE at HOUR 59, and then once. */
    private static void theSixtiethHour() {
        OathCoach x = Check.coachOf("c9,0;l8,1,59;");
        Check.says(x, "ahead 59 = 9", "ahead 60 = 8", "ahead 61 = BAD", "comesTo 0 59 = 0", "comesTo 0 60 = 1",
            "comesTo 0 61 = BAD", "visits 59 = 512", "visits 60 = 768", "visits 61 = BAD", "holds 59 = 0",
            "holds 60 = 1", "holds 61 = BAD", "drawn 0 1 0 = 9", "drawn 0 1 1 = 1");
    }

    private static void keptAndPast() {
        OathCoach x = Check.coachOf(STRAIGHT);
        Check.same("kept", x.kept(0), 9);
        Check.same("no such oath", x.kept(1), Check.BAD);
        Check.same("no such oath", x.kept(-1), Check.BAD);
        Check.same("past here", x.past(0), 0);
        Check.same("past 4", x.past(4), 4);
        Check.same("past 9", x.past(9), 9);
        Check.same("no such place", x.past(10), Check.BAD);
        Check.same("no such place", x.past(-1), Check.BAD);
        x.buy(0);
        Check.same("it is not open now", x.kept(0), 0);
        Check.same("never", x.past(9), Check.NONE);
        x = Check.coachOf("c0,0;o0,1,1;f0,1,1;");
        Check.says(x, "kept 0 = 1", "kept 1 = 1", "hours 1 = 0", "kept 0 = 0", "kept 1 = 0");
        x = Check.coachOf(TO_AND_FRO);
        Check.same("the first vow", x.kept(0), 1);
        Check.same("never", x.kept(1), Check.NONE);
        Check.same("never", x.past(2), Check.NONE);
        x = Check.coachOf("c0,0;v2,1,1;");
        Check.same("kept and open again at once is open", x.kept(0), 3);
        lateInTheDay();
    }

    /** An oath to 0 that the vow at 9 outweighs until it is DUE at HOUR 60 pulls it off only then. */
    private static void lateInTheDay() {
        OathCoach x = Check.coachOf("c9,0;o8,6,60;f9,20,1;");
        x.snow(8, 1);
        x.snow(9, 1);
        Check.same("it stands in snow", x.kept(0), Check.NONE);
        Check.same("it stands in snow", x.kept(1), 1);
        x = Check.coachOf("c9,0;l8,1,59;");
        Check.same("at the last hour", x.kept(0), 60);
        Check.same("at the last hour", x.past(8), 60);
        Check.same("rest ahead of it", x.rest(), 0);
        x = Check.coachOf("c9,0;l8,1,60;");
        Check.same("an hour too late", x.kept(0), Check.NONE);
        Check.same("an hour too late", x.past(8), Check.NONE);
        Check.same("an hour too late", x.order(0), Check.NONE);
    }

    private static void visitsAndRest() {
        OathCoach x = Check.coachOf(STRAIGHT);
        Check.same("now", x.visits(0), 1);
        Check.same("three hours", x.visits(3), 15);
        Check.same("all hours", x.visits(60), 1023);
        Check.same("below", x.visits(-1), Check.BAD);
        Check.same("above", x.visits(61), Check.BAD);
        Check.same("rest", x.rest(), 9);
        x.hours(5);
        Check.same("within an hour", x.visits(1), 96);
        Check.same("rest", x.rest(), 4);
        x.buy(0);
        Check.same("rest now", x.rest(), 0);
        x = Check.coachOf(TO_AND_FRO);
        Check.same("two places", x.visits(60), 3);
        Check.same("never", x.rest(), Check.NONE);
        Check.same("ten hours are a rest", Check.coachOf("c9,0;l8,1,10;").rest(), 0);
        Check.same("nine are none", Check.coachOf("c9,0;l8,1,9;").rest(), 10);
        String nines = "c9,0;l8,1,9;l7,1,18;l6,1,27;l5,1,36;l4,1,45;l3,1,54;";
        Check.same("behind sixty hours", Check.coachOf(nines + "l2,1,59;").rest(), 60);
        Check.same("behind more", Check.coachOf(nines + "l2,1,60;").rest(), Check.NONE);
    }

    private static void least() {
        OathCoach x = Check.coachOf("c4,0;o9,5,60;o9,1,60;");
        Check.same("more than the other", x.least(1, 0, 4), 6);
        Check.same("the first of two", x.least(0, 0, 4), 1);
        Check.same("too far", x.least(1, 0, 3), Check.NONE);
        Check.same("behind the other", x.least(1, 0, 24), 1);
        Check.same("no such oath", x.least(2, 0, 4), Check.BAD);
        Check.same("no such oath", x.least(-1, 0, 4), Check.BAD);
        Check.same("no such place", x.least(0, 10, 4), Check.BAD);
        Check.same("no such place", x.least(0, -1, 4), Check.BAD);
        Check.same("no hours", x.least(0, 0, 0), Check.BAD);
        Check.same("too many", x.least(0, 0, 25), Check.BAD);
        x.buy(1);
        Check.same("one bought off is sworn", x.least(1, 0, 4), 6);
        x = Check.coachOf("c1,0;f9,14,60;o9,1,60;");
        Check.same("20 is enough", x.least(1, 0, 1), 20);
        x = Check.coachOf("c1,0;f9,15,60;o9,1,60;");
        Check.same("20 is not enough", x.least(1, 0, 1), Check.NONE);
        Check.same("1 at least", Check.coachOf("c0,0;o9,1,60;").least(0, 0, 1), 1);
    }

    /** It goes to and fro: behind 23 HOURS it is at 0, which is HOME, behind 24 at 1. */
    private static void theTwentyFourthHour() {
        OathCoach x = Check.coachOf(TO_AND_FRO);
        Check.says(x, "least 1 9 1 = 1", "least 1 9 2 = NONE", "least 1 9 23 = 1", "least 1 9 24 = 11",
            "least 1 9 25 = BAD", "least 1 9 0 = BAD", "least 1 0 24 = 1");
        boughtOff(x, 0, 23, 0, 0);
        boughtOff(x, 1, 23, Check.NONE, Check.NONE);
        boughtOff(x, 1, 24, 0, 0);
        boughtOff(x, 0, 24, 1, 2);
        boughtOff(x, 9, 24, 1, 1);
        boughtOff(x, 2, 24, Check.NONE, Check.NONE);
        Check.says(x, "buyOff 0 25 0 = BAD", "buyOff 0 0 0 = BAD", "hours 24 = 1");
    }

    private static void buyOff() {
        OathCoach x = Check.coachOf("c4,0;o9,5,60;m9,1,60;f0,1,1;");
        boughtOff(x, 0, 4, 0, 0);
        boughtOff(x, 9, 5, 1, 4);
        boughtOff(x, 4, 1, 3, 7);
        boughtOff(x, 9, 4, Check.NONE, Check.NONE);
        x.buy(2);
        boughtOff(x, 3, 1, Check.NONE, Check.NONE);
        boughtOff(x, 4, 1, 2, 3);
        boughtOff(Check.coachOf(THREE), 9, 7, 1, 1);
        boughtOff(Check.coachOf("c5,0;o9,1,9;o9,1,9;o9,1,9;o9,1,9;o9,1,9;o9,1,9;o9,1,9;"), 5, 1, 7, 127);
        boughtOff(vowThatIsKept(), 3, 2, Check.NONE, Check.NONE);
        int[][] bad = {{10, 1, 0}, {-1, 1, 0}, {0, 0, 0}, {0, 25, 0}, {0, 1, 2}, {0, 1, -1}};
        for (int[] b : bad) {
            Check.same("bad", x.buyOff(b[0], b[1], b[2]), Check.BAD);
        }
    }

    private static void boughtOff(OathCoach x, int place, int n, int many, int which) {
        Check.same("buyOff " + place + " in " + n, x.buyOff(place, n, 0), many);
        Check.same("buyOff " + place + " in " + n + ", which", x.buyOff(place, n, 1), which);
    }

    /** Were it bought off, the coach would go on to 3; but it is not OPEN. */
    private static OathCoach vowThatIsKept() {
        OathCoach x = Check.coachOf("c1,0;v1,1,1;o9,1,60;");
        x.hours(1);
        Check.same("kept", x.oath(0, 3), 1);
        Check.same("it comes back", x.ahead(2), 1);
        return x;
    }

    private static void holds() {
        OathCoach x = Check.coachOf(THREE);
        Check.same("one hour", x.holds(1), 1);
        Check.same("seven", x.holds(7), 7);
        Check.same("sixty", x.holds(60), 4);
        Check.same("none", x.holds(0), Check.BAD);
        Check.same("above", x.holds(61), Check.BAD);
        x.buy(0);
        Check.same("what is not open does not hold", x.holds(1), 2);
        Check.same("a vow that is kept does not hold", vowThatIsKept().holds(2), 0);
    }

    private static void broke() {
        OathCoach x = Check.coachOf(THREE);
        Check.rowOf(x, 0, 6, 7, 8, 77);
        Check.same("the second", x.broke(0, 0, 3), 2);
        Check.same("no place", x.broke(0, 3, 1), 0);
        Check.rowOf(x, 1, 9, 6, 5, 4);
        Check.same("as it is", x.broke(1, 1, 3), 132);
        Check.rowOf(x, 2, 4, 5, 4, 4);
        Check.same("the first", x.broke(2, 0, 2), 1);
        Check.same("none", x.broke(2, 2, 2), 0);
        x.buy(0);
        Check.same("bought off: as it is", x.broke(2, 0, 2), 128);
        Check.rowOf(x, 3, 6, 7, 8, 9, 9, 9, 9, 9, 9, 9, 9, 9, 9);
        Check.same("twelve", x.broke(3, 0, 12), 2);
        x = vowThatIsKept();
        Check.rowOf(x, 0, 2, 3);
        Check.same("what is not open was not broken", x.broke(0, 0, 2), 0);
    }

    private static void sworn() {
        OathCoach x = Check.coachOf(THREE);
        Check.rowOf(x, 0, 6, 5, 4);
        Check.same("beyond it", x.sworn(0, 0, 0, 1), 960);
        Check.same("here", x.sworn(0, 0, 1, 1), 32);
        Check.same("below it", x.sworn(0, 0, 2, 1), 31);
        Check.same("as it is", x.sworn(0, 0, 0, 3), 64);
        Check.same("it never pulls", x.sworn(2, 0, 0, 3), 1023);
        x.buy(2);
        Check.same("not open", x.sworn(2, 0, 0, 3), Check.STATE);
        Check.same("PLACE is ahead of that", x.sworn(2, 0, 0, 4), Check.PLACE);
        Check.same("NULL is ahead of that", x.sworn(2, 1, 0, 4), Check.NULL);
        Check.same("BAD is ahead of that", x.sworn(2, 1, 0, 13), Check.BAD);
    }

    private static void who() {
        OathCoach x = Check.coachOf(THREE);
        Check.rowOf(x, 0, 4, 6);
        Check.same("mother, lie, vow", x.who(1, 0, 0, 1), 52);
        Check.same("oath, letter", x.who(1, 0, 1, 1), 10);
        x = Check.coachOf("c0,0;o0,1,1;");
        x.hours(1);
        Check.rowOf(x, 0, 0, 0);
        Check.same("kept: it stays", x.who(0, 0, 0, 2), 62);
        x = Check.coachOf("c1,0;f1,1,1;o0,1,1;");
        x.hours(1);
        Check.rowOf(x, 0, 0, 1);
        Check.same("broken: whatever it is", x.who(0, 0, 0, 1), 62);
        x = Check.coachOf("c1,0;o1,1,1;o9,1,60;");
        x.hours(1);
        x.snow(9, 1);
        x.hours(1);
        x.snow(9, 0);
        Check.rowOf(x, 0, 2, 3, 2, 3);
        Check.same("kept: none but a vow comes back", x.who(0, 0, 0, 3), 32);
        Check.same("but not yet", x.who(0, 0, 0, 2), 62);
    }

    /** As it is: 6, 5, 4, 5, 6, 7, 8, 9, and it stays there. */
    private static void twelveHoursAtTheEndOfARow() {
        OathCoach x = Check.coachOf(THREE);
        Check.rowOf(x, 0, 6, 5, 4, 5, 6, 7, 8, 9, 9, 9, 9, 9);
        Check.says(x, "row 1 0 40 = 40", "copy 0 0 1 28 12 = 12", "broke 1 28 12 = 128", "sworn 0 1 28 12 = 64",
            "sworn 2 1 28 12 = 512", "who 0 1 28 12 = 22", "broke 1 29 12 = PLACE", "sworn 0 1 29 12 = PLACE",
            "who 0 1 29 12 = PLACE", "broke 1 28 13 = BAD", "sworn 0 1 28 13 = BAD", "who 0 1 28 13 = BAD");
        Check.says(x, "set 1 39 8 = 8", "broke 1 28 12 = 0", "sworn 0 1 28 12 = 0", "who 0 1 28 12 = 0",
            "broke 1 28 11 = 128", "sworn 0 1 28 11 = 64", "who 0 1 28 11 = 22");
    }

    private static void itemsThatAreNoPlaces() {
        OathCoach x = Check.coachOf("c0,0;o0,1,1;");
        x.row(0, 2, 1);
        Check.says(x, "broke 0 0 1 = 129", "sworn 0 0 0 1 = 1", "who 0 0 0 1 = 62");
        for (int item : new int[] {-1, 10, 256, 65536, 32, Integer.MIN_VALUE, Integer.MAX_VALUE}) {
            Check.same("set", x.set(0, 0, item), item);
            Check.says(x, "broke 0 0 1 = 0", "sworn 0 0 0 1 = 0", "who 0 0 0 1 = 0");
        }
    }

    private static void toldRowsRefused() {
        OathCoach x = Check.coachOf(THREE);
        Check.rowOf(x, 0, 6, 5, 4);
        int[][] cases = {{8, 0, 1, Check.BAD}, {-1, 0, 1, Check.BAD}, {0, 0, 0, Check.BAD}, {0, 0, 13, Check.BAD},
            {1, 0, 1, Check.NULL}, {1, -1, 1, Check.NULL}, {0, -1, 1, Check.PLACE}, {0, 3, 1, Check.PLACE},
            {0, 1, 3, Check.PLACE}, {0, Integer.MAX_VALUE, 12, Check.PLACE}, {0, Integer.MIN_VALUE, 12, Check.PLACE}};
        for (int[] c : cases) {
            String told = " of row " + c[0] + " from " + c[1] + ", " + c[2];
            Check.same("broke" + told, x.broke(c[0], c[1], c[2]), c[3]);
            Check.same("sworn" + told, x.sworn(0, c[0], c[1], c[2]), c[3]);
            Check.same("who" + told, x.who(0, c[0], c[1], c[2]), c[3]);
        }
        Check.same("sworn", x.sworn(3, 0, 0, 1), Check.BAD);
        Check.same("who", x.who(-1, 0, 0, 1), Check.BAD);
    }

    private static void late() {
        OathCoach x = Check.coachOf("c0,0;o9,5,3;v9,1,1;f9,1,1;");
        x.snow(9, 1);
        Check.same("BAD", x.late(2), Check.BAD);
        Check.same("BAD", x.late(-1), Check.BAD);
        x.hours(1);
        Check.same("due now is not late", x.late(0), Check.NONE);
        Check.same("due now is not late", x.late(1), Check.NONE);
        x.hours(1);
        Check.same("by one", x.late(0), 1);
        Check.same("the first of two", x.late(1), 1);
        x.hours(3);
        Check.same("by four", x.late(0), 4);
        x.buy(1);
        Check.same("the next", x.late(1), 2);
        x.buy(2);
        Check.same("by two", x.late(0), 2);
        Check.same("the oath", x.late(1), 0);
    }

    private static void lateAtTheEdge() {
        OathCoach x = Check.coachOf("c0,0;o9,5,60;f0,5,1;l9,2,1;");
        Check.says(x, "snow 9 1 = 512", "hours 24 = 0", "oath 1 3 = 2", "late 0 = 23", "late 1 = 2", "buy 2 = 1",
            "late 0 = NONE", "late 1 = NONE", "hours 24 = 0", "hours 12 = 0", "count 3 = 60", "late 0 = NONE",
            "late 1 = NONE", "hours 1 = 0", "late 0 = 1", "late 1 = 0", "swear 2 9 1 = 0", "late 0 = 60", "late 1 = 2");
        for (int i = 0; i < 39; i++) {
            x.hours(24);
        }
        Check.says(x, "hours 2 = 0", "count 3 = 999", "late 0 = 998", "late 1 = 2");
    }

    private static void lies() {
        OathCoach x = Check.coachOf("c5,0;o9,3,60;o0,2,60;");
        fraction(x, 6, 4, 3, 5);
        fraction(x, 4, 4, 6, 25);
        fraction(x, 5, 4, 4, 25);
        fraction(x, 7, 4, 0, 1);
        fraction(x, 6, 0, 1, 1);
        fraction(x, 5, 0, 0, 1);
        fraction(x, 5, 10, 1, 1);
        fraction(x, 4, 10, 0, 1);
        fraction(x, 5, 3, 9, 100);
        int[][] bad = {{10, 1, 0}, {-1, 1, 0}, {0, 11, 0}, {0, -1, 0}, {0, 1, 2}, {0, 1, -1}};
        for (int[] b : bad) {
            Check.same("bad", x.lies(b[0], b[1], b[2]), Check.BAD);
        }
        x.buy(0);
        fraction(x, 4, 3, 7, 10);
        x.buy(1);
        fraction(x, 5, 7, 1, 1);
        x = Check.coachOf("c5,0;o9,1,9;o9,1,9;o9,1,9;o9,1,9;o9,1,9;o9,1,9;o9,1,9;");
        fraction(x, 5, 3, 2187, 10000000);
        fraction(x, 6, 3, 9997813, 10000000);
        fraction(x, 5, 5, 1, 128);
        fraction(x, 6, 5, 127, 128);
        x = Check.coachOf("c5,0;o9,3,60;o0,2,60;l9,1,60;");
        Check.says(x, "snow 9 1 = 512");
        fraction(x, 4, 4, 3, 5);
        fraction(x, 5, 4, 2, 5);
        fraction(x, 6, 4, 0, 1);
        x = Check.coachOf("c9,0;o9,3,60;o0,2,60;");
        fraction(x, 9, 1, 91, 100);
        fraction(x, 8, 1, 9, 100);
        fraction(x, 9, 9, 91, 100);
        fraction(x, 0, 9, 0, 1);
    }

    private static void fraction(OathCoach x, int place, int p, long above, long below) {
        Check.same("lies " + place + " by " + p + ", above", x.lies(place, p, 0), above);
        Check.same("lies " + place + " by " + p + ", below", x.lies(place, p, 1), below);
    }

    private static void order() {
        OathCoach x = Check.coachOf("c5,0;o7,1,60;f6,1,60;m6,1,60;");
        int[] want = {1, 2, 0, Check.NONE};
        for (int k = 0; k < 4; k++) {
            Check.same("order " + k, x.order(k), want[k]);
        }
        Check.same("far", x.order(Integer.MAX_VALUE), Check.NONE);
        Check.same("below", x.order(-1), Check.BAD);
        x = Check.coachOf(TO_AND_FRO);
        Check.same("a vow anew", x.order(29), 0);
        Check.same("sixty hours", x.order(30), Check.NONE);
        x = Check.coachOf("c0,0;v2,1,1;");
        Check.same("kept and open again at once", x.order(0) * 10 + x.order(1), 0);
        x = Check.coachOf("c0,0;o2,1,1;v1,20,1;");
        Check.same("by hours", x.order(0) * 10 + x.order(1), 10);
        Check.same("the last hour", Check.coachOf("c9,0;l8,1,59;").order(0), 0);
    }

    private static void drawn() {
        OathCoach x = Check.coachOf("c0,0;o2,5,60;");
        int[][] want = {{0, 0, 1}, {1, 1, 1}, {2, 2, 0}, {6, 2, 0}, {7, 3, 1}, {8, 4, 0}};
        for (int[] w : want) {
            Check.same("where behind " + w[0], x.drawn(w[0], 1, 0), w[1]);
            Check.same("open behind " + w[0], x.drawn(w[0], 1, 1), w[2]);
        }
        int[][] bad = {{-1, 1, 0}, {61, 1, 0}, {0, 0, 0}, {0, 1000000, 0}, {0, 1, 2}, {0, 1, -1}};
        for (int[] b : bad) {
            Check.same("bad", x.drawn(b[0], b[1], b[2]), Check.BAD);
        }
        Check.same("the last seed", x.drawn(0, 999999, 0), 0);
        Check.same("sworn in the first hour", x.drawn(1, 3, 0), 1);
        Check.same("and kept", x.drawn(1, 3, 1), 0);
        x = Check.coachOf("c5,0;o9,5,60;o9,1,60;m9,3,60;o9,1,60;");
        Check.same("the third is sworn to 2", x.drawn(1, 6, 0), 4);
        Check.same("all are open", x.drawn(1, 6, 1), 4);
    }

    /** The product is far beyond what an int holds. */
    private static void drawnByLargeNumbers() {
        OathCoach x = Check.coachOf("c5,0;o0,5,60;m9,2,30;v4,3,3;l8,9,9;f1,7,7;v6,1,1;o3,20,1;");
        int[] seeds = {1, 2, 999998, 999999};
        int[] hours = {0, 1, 2, 59, 60};
        int[][] where = {{5, 4, 3, 2, 1}, {5, 4, 3, 6, 5}, {5, 4, 3, 2, 1}, {5, 4, 3, 2, 3}};
        int[][] open = {{7, 6, 5, 2, 3}, {7, 6, 5, 3, 2}, {7, 6, 4, 3, 4}, {7, 6, 5, 2, 3}};
        for (int s = 0; s < 4; s++) {
            for (int h = 0; h < 5; h++) {
                String told = "drawn " + hours[h] + " " + seeds[s];
                Check.says(x, told + " 0 = " + where[s][h], told + " 1 = " + open[s][h]);
            }
        }
        Check.says(x, "drawn 61 1 0 = BAD", "drawn -1 1 0 = BAD", "drawn 60 0 0 = BAD", "drawn 60 1000000 0 = BAD");
    }

    private static void images() {
        OathCoach x = Check.coachOf(THREE);
        x.snow(2, 1);
        x.hours(2);
        Check.same("image", x.image(0), 1);
        Check.same("it leaves the acts", x.count(6), 3);
        x.hours(3);
        x.swear(1, 0, 20);
        Check.same("image", x.image(1), 1);
        Check.same("another route", Check.told(x, STRAIGHT), 1);
        Check.same("restore", x.restore(0), 1);
        int[] first = {5, 1, 6, 4, 0};
        for (int what = 0; what < 5; what++) {
            Check.same("coach " + what, x.coach(what), first[what]);
        }
        Check.same("hour", x.count(3), 2);
        Check.same("kept", x.count(4), 1);
        Check.same("oaths", x.count(1), 3);
        Check.same("none can be undone", x.undo(), Check.STATE);
        x.buy(1);
        Check.same("restore", x.restore(1), 1);
        Check.same("hour", x.count(3), 5);
        Check.same("sworn", x.oath(1, 0), 0);
        Check.same("acts", x.count(6), 0);
        Check.same("restore again", x.restore(0), 1);
        Check.same("open", x.coach(2), 6);
        Check.same("an image anew", x.hours(1) * 10 + x.image(1), 41);
        x.restore(0);
        x.restore(1);
        Check.same("hour", x.count(3), 3);
        Check.same("BAD", x.image(-1), Check.BAD);
        Check.same("BAD", x.image(2), Check.BAD);
        Check.same("BAD", x.restore(2), Check.BAD);
        x = Check.coachOf(THREE);
        x.image(1);
        Check.same("none was kept", x.restore(0), Check.STATE);
    }

    /** Each thing of a ROUTE, and no ACT of what was before. */
    private static void allOfAnImage() {
        OathCoach x = Check.coachOf("c4,7;o4,1,60;f5,9,9;v9,2,9;m0,2,30;l9,8,5;");
        Check.says(x, "snow 2 1 = 4", "hours 3 = 5", "buy 4 = 2", "image 1 = 1", "swear 3 3 3 = 9",
            "tell c0,0;v8,8,8; = 1", "hours 5 = 5", "image 0 = 1", "tell c10; = -1000101", "restore 1 = 1");
        int[][] oaths = {{1, 4, 1, 60, 1, 0}, {4, 5, 9, 9, 2, 0}, {5, 9, 2, 9, 0, 2}, {2, 0, 2, 30, 0, 6},
            {3, 9, 8, 5, 3, 0}};
        for (int oath = 0; oath < 5; oath++) {
            Check.same("kind of " + oath, x.kind(oath), oaths[oath][0]);
            for (int what = 0; what < 5; what++) {
                Check.same(what + " of " + oath, x.oath(oath, what), oaths[oath][what + 1]);
            }
        }
        Check.says(x, "coach 0 = 5", "coach 1 = 3", "coach 2 = 12", "coach 3 = 4", "coach 4 = 7", "count 1 = 5",
            "count 3 = 3", "count 4 = 1", "count 5 = 1", "count 6 = 0", "undo = STATE", "hours 1 = 4", "undo = 0",
            "coach 0 = 5", "undo = STATE", "restore 0 = 1", "coach 0 = 5", "count 1 = 1", "kind 0 = 5", "kind 1 = BAD",
            "fault = 2");
    }

    private static void nothingChanges() {
        OathCoach x = Check.coachOf(THREE);
        Check.rowOf(x, 0, 6, 5, 4);
        x.hours(1);
        x.ahead(60);
        x.least(0, 0, 24);
        x.buyOff(4, 2, 0);
        x.holds(9);
        x.broke(0, 0, 3);
        x.sworn(1, 0, 0, 3);
        x.who(1, 0, 0, 3);
        x.lies(4, 5, 0);
        x.order(5);
        x.drawn(60, 7, 0);
        Check.same("where", x.coach(0), 6);
        Check.same("open", x.coach(2), 6);
        Check.same("hour", x.count(3), 1);
        Check.same("kept", x.count(4), 1);
        Check.same("acts", x.count(6), 1);
        Check.same("kind", x.kind(1), 1);
        Check.same("place", x.oath(1, 0), 4);
        Check.same("weight", x.oath(0, 1), 5);
    }
}
