/** Promises 9 to 15: undo, hours, swear, buy, snow, oath, coach. */
public final class ActsTest {
    public static void main(String[] args) {
        pulls();
        pullOfWhatIsNotOpen();
        snowAndPull();
        anHour();
        theFirstAndTheLastPlace();
        metInSnow();
        vows();
        vowsBySpan();
        hours();
        hoursFull();
        swear();
        swearWhateverItWas();
        buy();
        snow();
        oathAndCoach();
        undo();
        undoForgets();
        undoOfEachActAtTheEdge();
        Check.finish();
    }

    private static void pulls() {
        OathCoach x = Check.coachOf("c0,0;o9,7,2;m9,7,2;l9,7,2;f9,7,2;v9,7,2;l9,1,3;m9,20,3;");
        int[][] due = {{7, 21, 3, 12, 12, 0, 60}, {7, 21, 3, 12, 7, 0, 60},
            {17, 31, 13, 12, 12, 0, 60}, {17, 31, 13, 12, 7, 10, 70}};
        for (int hour = 0; hour < 4; hour++) {
            for (int oath = 0; oath < 7; oath++) {
                Check.same("pull of " + oath + " at " + hour, x.oath(oath, 4), due[hour][oath]);
            }
            x.hours(1);
        }
    }

    private static void pullOfWhatIsNotOpen() {
        OathCoach x = Check.coachOf("c0,0;o1,20,1;f1,20,1;v1,20,1;m9,1,1;l9,1,9;");
        Check.says(x, "hours 1 = 1", "buy 3 = 1", "oath 0 3 = 1", "oath 0 4 = 0", "oath 1 3 = 2", "oath 1 4 = 0",
            "oath 2 3 = 1", "oath 2 4 = 0", "oath 3 3 = 3", "oath 3 4 = 0");
        Check.says(x, "oath 4 3 = 0", "oath 4 4 = 0", "coach 1 = NONE", "hours 1 = 1", "coach 2 = 16");
    }

    private static void snowAndPull() {
        OathCoach x = Check.coachOf("c5,0;o9,9,9;o0,8,9;");
        Check.same("the first pulls", x.coach(1), 0);
        x.snow(9, 1);
        Check.same("no pull", x.oath(0, 4), 0);
        Check.same("the other pulls", x.coach(1), 1);
        x.buy(1);
        Check.same("none pulls", x.coach(1), Check.NONE);
        Check.same("it stays", x.hours(1), 5);
        x.snow(9, 0);
        Check.same("it goes", x.hours(1), 6);
    }

    private static void anHour() {
        OathCoach x = Check.coachOf("c5,0;o5,1,9;f6,1,9;m6,1,9;l6,2,9;o7,9,9;");
        Check.same("of several the most", x.coach(1), 4);
        Check.same("a place", x.hours(1), 6);
        int[] came = {0, 2, 1, 1, 0};
        for (int i = 0; i < 5; i++) {
            Check.same("what came of " + i, x.oath(i, 3), came[i]);
        }
        Check.same("kept", x.count(4), 2);
        Check.same("broken", x.count(5), 1);
        x = Check.coachOf("c5,0;o5,5,9;o9,5,9;o2,4,9;");
        Check.same("of several the first: it stays", x.hours(1), 5);
        Check.same("kept where it stays", x.oath(0, 3), 1);
        Check.same("then the next", x.hours(1), 6);
        x = Check.coachOf("c5,0;o4,1,9;o3,9,9;");
        x.snow(4, 1);
        Check.same("kept in snow", x.hours(1) * 10 + x.oath(0, 3), 41);
    }

    private static void theFirstAndTheLastPlace() {
        OathCoach x = Check.coachOf("c0,0;m0,20,60;o9,1,60;");
        Check.says(x, "hours 1 = 0", "oath 0 3 = 1", "hours 9 = 9", "oath 1 3 = 1", "hours 24 = 9");
        Check.says(x, "swear 0 9 20 = 60", "swear 1 0 1 = 1", "hours 1 = 9", "hours 8 = 1", "oath 1 3 = 0",
            "hours 1 = 0", "oath 1 3 = 1", "hours 24 = 0");
    }

    /** "SNOW or not": a PLACE in SNOW does not pull, but what is sworn to it is met there. */
    private static void metInSnow() {
        OathCoach x = Check.coachOf("c4,0;m5,1,60;l5,2,60;f5,2,60;v5,2,60;o5,2,60;o6,1,60;");
        Check.says(x, "snow 5 1 = 32", "coach 1 = 5", "hours 1 = 5", "coach 2 = 32");
        int[] came = {1, 1, 2, 1, 1, 0};
        for (int oath = 0; oath < 6; oath++) {
            Check.same("what came of " + oath, x.oath(oath, 3), came[oath]);
        }
        Check.says(x, "count 4 = 4", "count 5 = 1");
    }

    /** An hour that is a multiple of WEIGHT and 1, at the least WEIGHT, at the most, and of one that is sworn anew. */
    private static void vowsBySpan() {
        OathCoach x = Check.coachOf("c0,0;v0,20,1;o0,1,1;f0,1,1;l0,1,1;m0,1,1;");
        Check.says(x, "hours 20 = 0", "coach 2 = 0", "hours 1 = 0", "coach 2 = 1", "hours 1 = 0", "coach 2 = 0",
            "hours 19 = 0", "coach 2 = 0", "hours 1 = 0", "coach 2 = 1", "count 3 = 42", "count 4 = 5", "count 5 = 1");
        Check.says(x, "swear 0 0 1 = 6", "hours 1 = 0", "coach 2 = 0", "hours 1 = 0", "coach 2 = 1", "count 3 = 44");
    }

    private static void vows() {
        OathCoach x = Check.coachOf("c0,0;v0,2,1;");
        int[] came = {1, 1, 0, 1, 1, 0};
        int[] kept = {1, 1, 1, 2, 2, 2};
        for (int h = 0; h < 6; h++) {
            x.hours(1);
            Check.same("the vow behind hour " + h, x.oath(0, 3), came[h]);
            Check.same("kept behind hour " + h, x.count(4), kept[h]);
        }
        x = Check.coachOf("c0,0;v2,1,1;");
        Check.same("there", x.hours(2), 2);
        Check.same("kept, and open again at once", x.oath(0, 3), 0);
        Check.same("kept once", x.count(4), 1);
        x.hours(1);
        Check.same("kept anew", x.oath(0, 3), 1);
        Check.same("kept twice", x.count(4), 2);
        x = Check.coachOf("c0,0;v0,1,1;");
        x.buy(0);
        x.hours(4);
        Check.same("bought off is not sworn again", x.oath(0, 3), 3);
    }

    private static void hours() {
        OathCoach x = Check.coachOf("c0,0;o9,5,5;");
        Check.same("none", x.hours(0), Check.BAD);
        Check.same("below", x.hours(-1), Check.BAD);
        Check.same("above", x.hours(25), Check.BAD);
        Check.same("nothing changed", x.count(3) * 10 + x.count(6), 0);
        Check.same("four", x.hours(4), 4);
        Check.same("an act each", x.count(6), 4);
        Check.same("hour", x.count(3), 4);
        Check.same("24", x.hours(24), 9);
    }

    private static void hoursFull() {
        OathCoach x = Check.coachOf("c0,0;v9,3,5;");
        for (int i = 0; i < 41; i++) {
            x.hours(24);
        }
        Check.same("hour", x.count(3), 984);
        Check.same("above 999", x.hours(16), Check.FULL);
        Check.same("BAD is ahead of FULL", x.hours(25), Check.BAD);
        Check.same("hour yet", x.count(3), 984);
        Check.same("999", x.hours(15) >= 0 ? 1 : 0, 1);
        Check.same("hour then", x.count(3), 999);
        Check.same("no more", x.hours(1), Check.FULL);
        Check.says(x, "ahead 60 = 9", "comesTo 0 0 = 1", "comesTo 0 1 = 0", "comesTo 0 2 = 1", "order 0 = 0",
            "undo = 23", "count 3 = 998", "hours 2 = FULL", "hours 1 = 9", "count 3 = 999");
    }

    private static void swear() {
        OathCoach x = Check.coachOf("c0,0;m9,5,2;f0,5,1;");
        Check.same("no such oath", x.swear(2, 0, 1), Check.BAD);
        Check.same("no such oath", x.swear(-1, 0, 1), Check.BAD);
        Check.same("no such place", x.swear(0, 10, 1), Check.BAD);
        Check.same("no such place", x.swear(0, -1, 1), Check.BAD);
        Check.same("no weight", x.swear(0, 0, 0), Check.BAD);
        Check.same("too much weight", x.swear(0, 0, 21), Check.BAD);
        Check.same("no act", x.count(6), 0);
        Check.same("its pull", x.swear(0, 3, 20), 60);
        Check.same("place", x.oath(0, 0), 3);
        Check.same("weight", x.oath(0, 1), 20);
        Check.same("due", x.oath(0, 2), 2);
        x.hours(3);
        Check.same("kept", x.oath(0, 3), 1);
        Check.same("open again", x.swear(0, 3, 1), 13);
        Check.same("open again", x.oath(0, 3), 0);
        x.snow(8, 1);
        Check.same("into snow", x.swear(1, 8, 9), 0);
        x.buy(1);
        Check.same("one bought off", x.swear(1, 7, 9), 14);
        Check.same("acts", x.count(6), 9);
    }

    private static void swearWhateverItWas() {
        OathCoach x = Check.coachOf("c0,0;o0,1,60;f0,1,60;l9,1,60;m9,1,60;");
        Check.says(x, "hours 1 = 0", "buy 2 = 1", "oath 0 3 = 1", "oath 1 3 = 2", "oath 2 3 = 3", "oath 3 3 = 0",
            "swear 0 9 1 = 1", "swear 1 9 1 = 6", "swear 2 0 2 = 1", "swear 3 0 20 = 60", "coach 2 = 15",
            "oath 0 3 = 0", "oath 1 3 = 0", "oath 2 3 = 0", "oath 3 3 = 0", "count 4 = 1", "count 5 = 1");
    }

    private static void buy() {
        OathCoach x = Check.coachOf("c0,0;o9,5,2;f5,5,1;v0,1,1;");
        Check.same("no such oath", x.buy(3), Check.BAD);
        Check.same("no such oath", x.buy(-1), Check.BAD);
        Check.same("open yet", x.buy(0), 2);
        Check.same("not open", x.buy(0), Check.STATE);
        Check.same("what came of it", x.oath(0, 3), 3);
        Check.same("its pull", x.oath(0, 4), 0);
        Check.same("open yet", x.buy(2), 1);
        Check.same("open yet", x.buy(1), 0);
        Check.same("acts", x.count(6), 3);
    }

    private static void snow() {
        OathCoach x = Check.coachOf("c0,0;o9,5,2;");
        Check.same("no such place", x.snow(10, 1), Check.BAD);
        Check.same("no such place", x.snow(-1, 0), Check.BAD);
        Check.same("neither", x.snow(0, 2), Check.BAD);
        Check.same("neither", x.snow(0, -1), Check.BAD);
        Check.same("it is so", x.snow(4, 0), Check.STATE);
        Check.same("comes", x.snow(4, 1), 16);
        Check.same("it is so", x.snow(4, 1), Check.STATE);
        Check.same("comes", x.snow(9, 1), 528);
        Check.same("goes", x.snow(4, 0), 512);
        Check.same("acts", x.count(6), 3);
        x = Check.coachOf("c0,0;o9,5,2;");
        for (int place = 0; place < 10; place++) {
            Check.same("it comes to " + place, x.snow(place, 1), (2 << place) - 1);
        }
        for (int place = 0; place < 10; place++) {
            Check.same("it goes from " + place, x.snow(place, 0), 1023 - ((2 << place) - 1));
        }
    }

    private static void oathAndCoach() {
        OathCoach x = Check.coachOf("c3,8;l9,5,2;f5,5,1;");
        Check.same("no such oath", x.oath(2, 0), Check.BAD);
        Check.same("no such oath", x.oath(-1, 0), Check.BAD);
        Check.same("no such thing", x.oath(0, 5), Check.BAD);
        Check.same("no such thing", x.oath(0, -1), Check.BAD);
        Check.same("no such thing", x.coach(5), Check.BAD);
        Check.same("no such thing", x.coach(-1), Check.BAD);
        int[] want = {3, 1, 3, 0, 8};
        for (int what = 0; what < 5; what++) {
            Check.same("coach " + what, x.coach(what), want[what]);
        }
    }

    private static void undo() {
        OathCoach x = Check.coachOf("c0,0;o2,5,2;f1,5,9;");
        x.snow(7, 1);
        x.swear(0, 3, 20);
        x.buy(1);
        x.hours(3);
        Check.same("acts", x.count(6), 6);
        Check.same("kept", x.count(4), 1);
        Check.same("undo", x.undo(), 5);
        Check.same("where", x.coach(0), 2);
        Check.same("hour", x.count(3), 2);
        Check.same("kept", x.count(4), 0);
        Check.same("what came of it", x.oath(0, 3), 0);
        x.undo();
        Check.same("undo", x.undo(), 3);
        Check.same("undo of buy", x.undo(), 2);
        Check.same("open", x.coach(2), 3);
        Check.same("undo of swear", x.undo(), 1);
        Check.same("place", x.oath(0, 0), 2);
        Check.same("weight", x.oath(0, 1), 5);
        Check.same("undo of snow", x.undo(), 0);
        Check.same("snow", x.coach(3), 0);
        Check.same("none", x.undo(), Check.STATE);
    }

    private static void undoForgets() {
        OathCoach x = Check.coachOf("c0,0;v9,1,1;");
        x.snow(0, 1);
        x.hours(20);
        Check.same("acts", x.count(6), 21);
        x.hours(10);
        Check.same("24 at most", x.count(6), 24);
        for (int left = 23; left >= 0; left--) {
            Check.same("undo", x.undo(), left);
        }
        Check.same("the oldest is forgotten", x.undo(), Check.STATE);
        Check.same("hour", x.count(3), 6);
        Check.same("where", x.coach(0), 6);
        Check.same("snow", x.coach(3), 1);
        x.hours(2);
        Check.same("acts anew", x.count(6), 2);
        Check.same("undo", x.undo(), 1);
        Check.same("where", x.coach(0), 7);
    }

    /** 24 ACTS of each sort are kept, and of 25 the oldest is forgotten. */
    private static void undoOfEachActAtTheEdge() {
        for (int acts = 23; acts <= 26; acts++) {
            OathCoach x = Check.coachOf("c0,0;o9,5,60;");
            for (int i = 1; i <= acts; i++) {
                Check.same("sworn", x.swear(0, i % 10, 1 + i % 20), 1 + i % 20);
                Check.same("acts", x.count(6), Math.min(i, 24));
            }
            for (int left = Math.min(acts, 24) - 1; left >= 0; left--) {
                Check.same("undone", x.undo(), left);
            }
            Check.same("none", x.undo(), Check.STATE);
            int forgotten = Math.max(acts - 24, 0);
            Check.same("place", x.oath(0, 0), forgotten == 0 ? 9 : forgotten);
            Check.same("weight", x.oath(0, 1), forgotten == 0 ? 5 : 1 + forgotten);
        }
        OathCoach x = Check.coachOf("c0,0;o9,5,60;");
        Check.says(x, "snow 9 1 = 512", "hours 24 = 0", "count 6 = 24", "count 3 = 24");
        for (int left = 23; left >= 0; left--) {
            Check.same("undone", x.undo(), left);
        }
        Check.says(x, "undo = STATE", "count 3 = 0", "coach 3 = 512", "snow 9 0 = 0", "count 6 = 1", "undo = 0",
            "coach 3 = 512", "undo = STATE");
    }
}
