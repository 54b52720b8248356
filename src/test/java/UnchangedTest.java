import java.util.ArrayList;
import java.util.List;
import java.util.function.Supplier;

/**
 * "What is refused, or found, changes nothing but status()" and "FORETOLD (nothing changes)": each such call is made on one
 * of two twins, and then all that can be seen of both is held against each other.
 */
public final class UnchangedTest {
    private static final int STATUS_BEFORE = 5;

    public static void main(String[] args) {
        refusedWithoutARoute();
        refusedWithARoute();
        findings();
        refusedWhenFull();
        foretold();
        aFault();
        besideTheRoute();
        Check.finish();
    }

    // ---- the twins

    private static void rowsAndTape(OathCoach x) {
        Check.rowOf(x, 0, 4, 4, 9, 4);
        Check.says(x, "row 1 1 2 = 2", "set 1 1 4 = 4", "row 2 2 0 = 0", "row 3 2 9 = 9", "drop 3 = 9");
        Check.feed(x, "c3,7;o8,2,2");
        Check.says(x, "copy 0 0 1 0 1 = STORE", "status = 5");
    }

    private static OathCoach bare() {
        OathCoach x = new OathCoach();
        rowsAndTape(x);
        return x;
    }

    /** Of its OATHS 0 is KEPT, 1 BROKEN, 2 and 3 are OPEN, 4 is bought off; the coach is at 5 and goes to 4. */
    private static OathCoach rich() {
        OathCoach x = new OathCoach();
        Check.says(x, "tell c4,7;o10,1,1; = -1000106", "tell c4,7;o4,1,60;f5,9,9;v9,2,9;m0,2,30;l9,8,5; = 5",
            "snow 2 1 = 4", "hours 1 = 5", "image 0 = 1", "hours 2 = 5", "buy 4 = 2", "ask 1 1 = 92");
        rowsAndTape(x);
        return x;
    }

    private static OathCoach atHour998() {
        OathCoach x = Check.coachOf("c4,7;o9,1,60;v0,2,2;");
        for (int i = 0; i < 41; i++) {
            x.hours(24);
        }
        x.hours(14);
        Check.says(x, "count 3 = 998", "count 6 = 24");
        rowsAndTape(x);
        return x;
    }

    private static OathCoach withAFullTape() {
        OathCoach x = rich();
        for (int size = x.count(7) + 1; size <= 100; size++) {
            Check.same("feed", x.feed('0'), size);
        }
        return x;
    }

    /** Looks at all but status(), within 512 calls, and uses the object up. */
    private static List<Long> allSeen(OathCoach x) {
        List<Long> seen = new ArrayList<>();
        seen.add((long) x.fault());
        for (int i = 0; i < 8; i++) {
            seen.add((long) x.trace(i));
        }
        see(x, seen);
        while (x.undo() >= 0) {
            seeInShort(x, seen);
        }
        for (int k = 0; k < 2; k++) {
            seen.add((long) x.restore(k));
            seeInShort(x, seen);
        }
        x.feed(';');
        seen.add((long) x.route());
        see(x, seen);
        for (int row = 0; row < 8; row++) {
            for (int i = 0; i < 4; i++) {
                seen.add((long) x.broke(row, i, 1));
            }
            seen.add((long) x.set(row, 0, 98765));
            seen.add((long) x.drop(row));
        }
        return seen;
    }

    private static void see(OathCoach x, List<Long> seen) {
        seeInShort(x, seen);
        for (int what : new int[] {0, 1, 6, 7}) {
            seen.add((long) x.count(what));
        }
        seen.add((long) x.coach(4));
        int oaths = x.count(1);
        for (int oath = 0; oath < oaths; oath++) {
            seen.add((long) x.kind(oath));
            for (int what = 0; what < 5; what++) {
                seen.add((long) x.oath(oath, what));
            }
        }
    }

    private static void seeInShort(OathCoach x, List<Long> seen) {
        for (int what = 0; what < 4; what++) {
            seen.add((long) x.coach(what));
            seen.add((long) x.count(what + 2));
        }
    }

    /** Each line is a call and its answer; only a finding, or none, is seen in status(). */
    private static void unchanged(Supplier<OathCoach> twin, int status, String... lines) {
        List<Long> want = allSeen(twin.get());
        for (String line : lines) {
            OathCoach x = twin.get();
            Check.same("status ahead of " + line, x.status(), STATUS_BEFORE);
            Check.says(x, line);
            Check.same("status behind " + line, x.status(), status);
            Check.same("all is as it was behind " + line, allSeen(x).equals(want) ? 1 : 0, 1);
        }
    }

    // ---- what is refused

    /** STATE is ahead of BAD, and of findings, where the document tells it so. */
    private static void refusedWithoutARoute() {
        unchanged(UnchangedTest::bare, STATUS_BEFORE, "undo = STATE", "hours 1 = STATE", "hours 0 = STATE",
            "hours 25 = STATE", "snow 0 1 = STATE", "snow 0 0 = STATE", "snow 10 1 = STATE", "snow 0 2 = STATE",
            "coach 0 = STATE", "coach 5 = STATE", "coach -1 = STATE", "ahead 0 = STATE", "ahead 61 = STATE",
            "past 0 = STATE", "past 10 = STATE", "visits 0 = STATE", "visits -1 = STATE", "rest = STATE",
            "buyOff 0 1 0 = STATE", "buyOff 10 1 0 = STATE", "buyOff 0 0 0 = STATE", "buyOff 0 1 2 = STATE",
            "holds 1 = STATE", "holds 0 = STATE", "broke 0 0 1 = STATE", "broke 8 0 1 = STATE", "broke 0 0 13 = STATE",
            "broke 3 0 1 = STATE", "broke 0 4 1 = STATE", "late 0 = STATE", "late 2 = STATE", "lies 0 0 0 = STATE",
            "lies 10 0 0 = STATE", "lies 0 11 0 = STATE", "lies 0 0 2 = STATE", "order 0 = STATE", "order -1 = STATE",
            "drawn 0 1 0 = STATE", "drawn 61 1 0 = STATE", "drawn 0 0 0 = STATE", "drawn 0 1 2 = STATE",
            "image 0 = STATE", "image 1 = STATE", "restore 0 = STATE", "restore 1 = STATE");
        unchanged(UnchangedTest::bare, STATUS_BEFORE, "image 2 = BAD", "image -1 = BAD", "restore 2 = BAD",
            "restore -1 = BAD", "swear 0 0 1 = BAD", "buy 0 = BAD", "oath 0 0 = BAD", "comesTo 0 0 = BAD",
            "kept 0 = BAD", "least 0 0 1 = BAD", "sworn 0 0 0 1 = BAD", "sworn 0 3 0 1 = BAD", "who 0 0 0 1 = BAD",
            "who 0 0 4 1 = BAD", "kind 0 = BAD", "as 0 0 = BAD", "ask 0 0 = BAD", "count 8 = BAD");
    }

    private static void refusedWithARoute() {
        refused("row -1 0 1 = BAD", "row 8 0 1 = BAD", "row MAX 0 1 = BAD", "row MIN 0 1 = BAD", "row 0 -1 1 = BAD",
            "row 0 3 1 = BAD", "row 0 0 41 = BAD", "row 0 0 MAX = BAD", "row 8 0 -1 = BAD", "row 0 3 -1 = BAD");
        refused("set -1 0 7 = BAD", "set 8 0 7 = BAD", "set 8 -1 7 = BAD", "copy -1 0 0 0 1 = BAD",
            "copy 8 0 0 0 1 = BAD", "copy 0 0 -1 0 1 = BAD", "copy 0 0 8 0 1 = BAD", "copy 3 0 8 0 1 = BAD",
            "copy 8 -1 1 0 -1 = BAD", "drop -1 = BAD", "drop 8 = BAD");
        refused("feed -1 = BAD", "feed 256 = BAD", "feed MIN = BAD", "feed MAX = BAD");
        refused("hours 0 = BAD", "hours -1 = BAD", "hours 25 = BAD", "hours MAX = BAD", "hours MIN = BAD");
        refused("swear -1 0 1 = BAD", "swear 5 0 1 = BAD", "swear 2 -1 1 = BAD", "swear 2 10 1 = BAD",
            "swear 2 0 0 = BAD", "swear 2 0 21 = BAD", "swear 2 0 MAX = BAD", "swear 2 0 MIN = BAD");
        refused("buy -1 = BAD", "buy 5 = BAD", "buy 7 = BAD", "buy 0 = STATE", "buy 1 = STATE", "buy 4 = STATE");
        refused("snow -1 1 = BAD", "snow 10 1 = BAD", "snow 10 0 = BAD", "snow 2 2 = BAD", "snow 2 -1 = BAD",
            "snow 34 1 = BAD", "snow 2 1 = STATE", "snow 3 0 = STATE", "snow 9 0 = STATE");
        refused("oath -1 0 = BAD", "oath 5 0 = BAD", "oath 0 -1 = BAD", "oath 0 5 = BAD", "coach -1 = BAD",
            "coach 5 = BAD", "count -1 = BAD", "count 8 = BAD");
        refused("ahead -1 = BAD", "ahead 61 = BAD", "comesTo -1 0 = BAD", "comesTo 5 0 = BAD", "comesTo 2 -1 = BAD",
            "comesTo 2 61 = BAD", "kept -1 = BAD", "kept 5 = BAD", "past -1 = BAD", "past 10 = BAD", "visits -1 = BAD",
            "visits 61 = BAD");
        refused("least -1 0 1 = BAD", "least 5 0 1 = BAD", "least 2 -1 1 = BAD", "least 2 10 1 = BAD",
            "least 2 0 0 = BAD", "least 2 0 25 = BAD", "buyOff -1 1 0 = BAD", "buyOff 10 1 0 = BAD",
            "buyOff 0 0 0 = BAD", "buyOff 0 25 0 = BAD", "buyOff 0 1 -1 = BAD", "buyOff 0 1 2 = BAD", "holds 0 = BAD",
            "holds 61 = BAD");
        refused("late -1 = BAD", "late 2 = BAD", "lies -1 0 0 = BAD", "lies 10 0 0 = BAD", "lies 0 -1 0 = BAD",
            "lies 0 11 0 = BAD", "lies 0 0 -1 = BAD", "lies 0 0 2 = BAD", "order -1 = BAD", "order MIN = BAD");
        refused("drawn -1 1 0 = BAD", "drawn 61 1 0 = BAD", "drawn 0 0 0 = BAD", "drawn 0 -1 0 = BAD",
            "drawn 0 1000000 0 = BAD", "drawn 0 1 -1 = BAD", "drawn 0 1 2 = BAD");
        refused("image -1 = BAD", "image 2 = BAD", "restore -1 = BAD", "restore 2 = BAD", "restore 1 = STATE");
        refused("kind -1 = BAD", "kind 5 = BAD", "as -1 0 = BAD", "as 5 0 = BAD", "as 0 -1 = BAD", "as 0 6 = BAD",
            "ask -1 0 = BAD", "ask 5 0 = BAD", "ask 0 -1 = BAD", "ask 0 2 = BAD");
        refusedWithARow();
    }

    private static void refused(String... lines) {
        unchanged(UnchangedTest::rich, STATUS_BEFORE, lines);
    }

    private static void refusedWithARow() {
        refused("broke -1 0 1 = BAD", "broke 8 0 1 = BAD", "broke 0 0 0 = BAD", "broke 0 0 13 = BAD",
            "broke 3 0 13 = BAD", "broke 0 0 -1 = BAD");
        for (String call : new String[] {"sworn", "who"}) {
            refused(call + " -1 0 0 1 = BAD", call + " 5 0 0 1 = BAD", call + " 2 -1 0 1 = BAD",
                call + " 2 8 0 1 = BAD", call + " 2 0 0 0 = BAD", call + " 2 0 0 13 = BAD", call + " 2 3 0 13 = BAD",
                call + " 5 3 0 1 = BAD", call + " 0 0 0 13 = BAD");
        }
        refused("sworn 0 0 0 1 = STATE", "sworn 1 0 0 1 = STATE", "sworn 4 0 0 1 = STATE");
    }

    // ---- what is found

    private static void findings() {
        found(4, "row 0 0 -1 = SIZE", "row 3 1 -1 = SIZE", "row 0 0 MIN = SIZE");
        found(1, "set 3 0 7 = NULL", "set 3 -1 7 = NULL", "copy 3 0 0 0 1 = NULL", "copy 0 0 3 0 1 = NULL",
            "copy 0 0 3 0 0 = NULL", "copy 3 -1 1 9 -1 = NULL", "copy 4 0 5 0 0 = NULL", "drop 3 = NULL",
            "broke 3 0 1 = NULL", "broke 3 -1 12 = NULL", "sworn 2 3 0 1 = NULL", "sworn 0 3 0 1 = NULL",
            "sworn 0 3 -1 12 = NULL", "who 2 3 0 1 = NULL", "who 0 3 -1 12 = NULL");
        found(5, "copy 0 0 1 0 1 = STORE", "copy 1 0 0 0 0 = STORE", "copy 0 -1 1 0 1 = STORE",
            "copy 0 0 2 9 -1 = STORE");
        found(2, "set 0 -1 7 = PLACE", "set 0 4 7 = PLACE", "set 0 MAX 7 = PLACE", "set 0 MIN 7 = PLACE",
            "set 2 0 7 = PLACE", "copy 0 -1 0 0 1 = PLACE", "copy 0 0 0 -1 1 = PLACE", "copy 0 0 0 0 -1 = PLACE",
            "copy 0 0 0 0 5 = PLACE", "copy 0 3 0 0 2 = PLACE", "copy 0 0 0 3 2 = PLACE", "copy 0 5 0 0 0 = PLACE",
            "copy 0 0 0 5 0 = PLACE", "copy 0 MAX 0 0 1 = PLACE", "copy 0 0 0 MAX 1 = PLACE",
            "copy 0 1 0 0 MAX = PLACE", "copy 0 0 0 1 MAX = PLACE", "copy 0 MIN 0 0 MIN = PLACE",
            "copy 2 0 2 0 1 = PLACE");
        found(2, "broke 0 -1 1 = PLACE", "broke 0 4 1 = PLACE", "broke 0 1 4 = PLACE", "broke 0 MAX 12 = PLACE",
            "broke 0 MIN 12 = PLACE", "broke 2 0 1 = PLACE");
        for (String call : new String[] {"sworn 2", "sworn 0", "who 2", "who 0"}) {
            found(2, call + " 0 -1 1 = PLACE", call + " 0 4 1 = PLACE", call + " 0 1 4 = PLACE",
                call + " 0 MAX 12 = PLACE", call + " 0 MIN 12 = PLACE", call + " 2 0 1 = PLACE");
        }
        found(3, "as 0 2 = KIND", "as 0 4 = KIND", "as 1 1 = KIND", "as 1 5 = KIND", "as 2 3 = KIND", "as 3 5 = KIND",
            "as 4 2 = KIND");
    }

    private static void found(int status, String... lines) {
        unchanged(UnchangedTest::rich, status, lines);
    }

    private static void refusedWhenFull() {
        unchanged(UnchangedTest::atHour998, STATUS_BEFORE, "hours 2 = FULL", "hours 24 = FULL", "hours 25 = BAD",
            "hours 0 = BAD", "hours MAX = BAD");
        unchanged(UnchangedTest::withAFullTape, STATUS_BEFORE, "feed 0 = FULL", "feed 255 = FULL", "feed 59 = FULL",
            "feed 256 = BAD", "feed -1 = BAD");
    }

    // ---- what is foretold, and only asked for

    private static void foretold() {
        unchanged(UnchangedTest::rich, STATUS_BEFORE, "ahead 60 = 9", "comesTo 2 60 = 0", "kept 2 = 40",
            "past 9 = 40", "visits 60 = 1023", "rest = 40", "least 2 0 24 = NONE", "buyOff 4 1 0 = 0",
            "buyOff 6 1 1 = 8", "holds 1 = 8", "late 0 = NONE", "lies 4 0 0 = 1", "order 0 = 3", "drawn 60 7 0 = 7",
            "drawn 60 7 1 = 3", "kind 0 = 1", "oath 3 4 = 6", "coach 1 = 3", "trace 0 = 23", "trace -1 = NONE",
            "fault = 2", "status = 5", "count 2 = 12");
        unchanged(UnchangedTest::rich, 0, "broke 0 0 1 = 132", "sworn 2 0 0 1 = 1023", "who 2 0 0 1 = 42",
            "who 0 0 0 1 = 62", "as 0 0 = 0", "copy 0 4 0 0 0 = 0", "set 0 0 4 = 4");
    }

    // ---- a text with a FAULT

    /** "All stays", but for the tape, that is empty then, and the FAULT itself. */
    private static void aFault() {
        OathCoach x = rich();
        OathCoach y = rich();
        Check.says(x, "feed 44 = 12", "route = -1000111", "fault = 1", "count 7 = 0", "status = 5");
        Check.says(y, "route = -1000111", "count 7 = 0");
        Check.feed(x, "c3,7;o8,2,2");
        Check.feed(y, "c3,7;o8,2,2");
        List<Long> want = allSeen(rich());
        want.set(0, 1L);
        Check.same("all stays behind a FAULT", allSeen(x).equals(want) ? 1 : 0, 1);
        Check.same("all stays behind a FAULT at the end", allSeen(y).equals(want) ? 1 : 0, 1);
    }

    /** ROWS, the tape, THE TRACE, IMAGES, status() and fault() are no part of the ROUTE: ACTS and their undoing leave them. */
    private static void besideTheRoute() {
        String[] calls = {"hours 3 = 4", "swear 0 9 20 = 20", "buy 3 = 1", "snow 9 1 = 516", "undo = 4", "restore 0 = 1"};
        for (String call : calls) {
            OathCoach x = rich();
            Check.says(x, call);
            expectBesideTheRoute(x, 11);
            Check.says(x, "feed 59 = 12", "route = 1");
            expectBesideTheRoute(x, 0);
        }
    }

    private static void expectBesideTheRoute(OathCoach x, int bytes) {
        Check.says(x, "status = 5", "fault = 2", "trace 0 = 23", "trace 1 = 20", "trace 2 = 13", "trace 3 = 10",
            "trace 4 = NONE", "count 0 = 3", "count 7 = " + bytes, "restore 1 = STATE");
        if (bytes == 0) {
            Check.says(x, "coach 0 = 3", "count 6 = 0", "broke 0 0 2 = 0", "broke 0 0 1 = 128", "broke 0 1 1 = 128",
                "broke 0 2 1 = 0", "broke 0 3 1 = 128", "broke 1 0 1 = 0", "broke 1 1 1 = 128", "broke 1 2 1 = PLACE",
                "broke 2 0 1 = PLACE", "broke 3 0 1 = NULL", "restore 0 = 1", "coach 0 = 5", "count 3 = 1");
        }
    }
}
