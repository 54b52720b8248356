import java.util.ArrayList;
import java.util.List;

/** "An object is used for at most 512 calls": the 512th answers as an early one does, whatever was done before. */
public final class LastCallTest {
    private static final int CALLS = 512;
    /** Done again and again ahead of what is looked at; it leaves traces in all that an object holds. */
    private static final String[] PAST = {"tell c9,9;v0,1,1;v9,1,1;f5,20,60;l4,3,2;m3,9,8;o1,1,1;v2,20,1;", "image 1",
        "hours 24", "swear 3 3 20", "snow 4 1", "hours 7", "buy 5", "buy 4", "undo", "swear 5 8 1", "snow 4 0", "undo",
        "row 0 2 40", "set 0 39 MAX", "copy 0 1 0 0 39", "row 3 1 12", "set 3 0 9", "broke 3 0 12", "sworn 4 3 0 12",
        "who 4 3 0 12", "copy 0 0 3 0 1", "ask 4 1", "ask 5 0", "as 2 1", "drawn 60 999999 0", "buyOff 0 24 1",
        "least 0 9 24", "holds 60", "order 99", "ahead 60", "rest", "lies 4 3 0", "image 0", "restore 1", "hours 24",
        "hours 1", "undo", "drop 3", "tell c0,0;o1,1,1;x", "tell c4,4;l4,20,60;", "snow 0 1", "image 1", "hours 3"};

    public static void main(String[] args) {
        rowsAndText();
        acts();
        foretold();
        asked();
        refused();
        twoCalls();
        againAndAgain();
        actsToTheEnd();
        Check.finish();
    }

    /** Of its OATHS 0 is KEPT, 1 BROKEN, 2 and 3 are OPEN, 4 is bought off; the coach is at 5 and goes to 4, 5, 4, 5 .. */
    private static List<String> state() {
        List<String> calls = new ArrayList<>();
        add(calls, "tell c4,7;o10,1,1; = -1000106", "tell c4,7;o4,1,60;f5,9,9;v9,2,9;m0,2,30;l9,8,5; = 5",
            "snow 2 1 = 4", "hours 1 = 5", "image 0 = 1", "image 1 = 1", "hours 2 = 5", "buy 4 = 2", "ask 1 1 = 92",
            "row 0 0 4 = 4", "set 0 0 4 = 4", "set 0 1 4 = 4", "set 0 2 9 = 9", "set 0 3 4 = 4", "row 1 1 2 = 2",
            "set 1 1 4 = 4", "row 2 2 0 = 0", "row 3 0 1 = 1", "drop 3 = 1");
        for (char c : "c3,7;o8,2,2".toCharArray()) {
            calls.add("feed " + (int) c);
        }
        add(calls, "copy 0 0 1 0 1 = STORE");
        return calls;
    }

    /** A line without an answer is only called; a text is told byte by byte, so that each line is one call. */
    private static void add(List<String> calls, String... lines) {
        for (String line : lines) {
            if (!line.startsWith("tell ")) {
                calls.add(line);
                continue;
            }
            String[] halves = line.split(" = ");
            for (char c : halves[0].substring(5).toCharArray()) {
                calls.add("feed " + (int) c);
            }
            calls.add(halves.length == 1 ? "route" : "route = " + halves[1]);
        }
    }

    /** The lines are the last calls of a new object, from each of some beginnings of its past. */
    private static void last(String... lines) {
        List<String> past = new ArrayList<>();
        add(past, PAST);
        for (int beginning = 0; beginning < past.size(); beginning += 13) {
            List<String> behind = new ArrayList<>(List.of("route"));
            behind.addAll(state());
            add(behind, lines);
            List<String> calls = new ArrayList<>();
            for (int i = 0; i < CALLS - behind.size(); i++) {
                calls.add(past.get((beginning + i) % past.size()));
            }
            calls.addAll(behind);
            Check.same("calls", calls.size(), CALLS);
            runAll(calls);
        }
    }

    private static void lastOne(String... lines) {
        for (String line : lines) {
            last(line);
        }
    }

    private static void runAll(List<String> calls) {
        OathCoach x = new OathCoach();
        for (String call : calls) {
            if (call.contains(" = ")) {
                Check.says(x, call);
            } else {
                Check.call(x, call);
            }
        }
    }

    private static void rowsAndText() {
        lastOne("row 7 2 40 = 40", "row 0 1 0 = 0", "set 1 0 70000 = 4464", "copy 0 2 0 0 2 = 2", "drop 0 = 4",
            "drop 2 = 0", "feed 59 = 12", "route = -1000111", "fault = 2", "status = 5");
    }

    private static void acts() {
        lastOne("undo = 4", "hours 24 = 5", "hours 1 = 4", "swear 4 5 20 = 10", "swear 0 9 20 = 20", "buy 2 = 1",
            "snow 9 1 = 516", "snow 2 0 = 0", "oath 0 3 = 1", "oath 1 3 = 2", "oath 2 4 = 2", "oath 3 4 = 6",
            "oath 4 3 = 3", "oath 4 2 = 5", "coach 0 = 5", "coach 1 = 3", "coach 2 = 12", "coach 3 = 4", "coach 4 = 7",
            "image 1 = 1", "restore 0 = 1", "restore 1 = 1");
    }

    private static void foretold() {
        lastOne("ahead 60 = 9", "ahead 1 = 4", "comesTo 2 60 = 0", "comesTo 3 60 = 1", "kept 2 = 40", "kept 0 = 0",
            "past 9 = 40", "visits 60 = 1023", "visits 0 = 32", "rest = 40", "least 2 0 24 = NONE", "buyOff 4 1 0 = 0",
            "buyOff 6 1 1 = 8", "holds 1 = 8", "broke 0 0 1 = 132", "sworn 2 0 0 1 = 1023", "who 2 0 0 1 = 42",
            "late 0 = NONE", "lies 4 0 0 = 1", "lies 4 3 1 = 10", "order 0 = 3", "drawn 60 7 0 = 7",
            "drawn 60 7 1 = 3");
    }

    private static void asked() {
        lastOne("kind 4 = 3", "as 4 1 = 4", "as 4 2 = KIND", "ask 2 0 = -196", "ask 3 0 = -8", "trace 0 = 23",
            "trace 3 = 10", "trace 4 = NONE", "count 0 = 3", "count 1 = 5", "count 2 = 12", "count 3 = 3",
            "count 4 = 1", "count 5 = 1", "count 6 = 5", "count 7 = 11");
    }

    private static void refused() {
        lastOne("row 3 0 -1 = SIZE", "set 3 0 1 = NULL", "copy 0 0 2 0 0 = STORE", "copy 0 1 0 0 4 = PLACE",
            "drop 4 = NULL", "feed 256 = BAD", "hours 25 = BAD", "swear 5 0 1 = BAD", "buy 4 = STATE",
            "snow 2 1 = STATE", "oath 5 0 = BAD", "coach 5 = BAD", "ahead 61 = BAD", "broke 1 1 2 = PLACE",
            "sworn 0 0 0 1 = STATE", "who 0 4 0 1 = NULL", "order -1 = BAD", "drawn 0 0 0 = BAD", "image 2 = BAD",
            "restore 2 = BAD", "kind 5 = BAD", "count 8 = BAD");
    }

    /** What the 511th call did is seen by the 512th. */
    private static void twoCalls() {
        last("undo = 4", "coach 2 = 28");
        last("hours 1 = 4", "count 6 = 6");
        last("hours 24 = 5", "count 6 = 24");
        last("hours 24 = 5", "undo = 23");
        last("restore 1 = 1", "undo = STATE");
        last("restore 0 = 1", "count 3 = 1");
        last("tell c3,7;o8,2,2; = -1000111", "count 1 = 5");
        last("feed 59 = 12", "route = 1", "undo = STATE");
        last("feed 59 = 12", "route = 1", "restore 0 = 1", "coach 2 = 29");
        last("row 0 2 40 = 40", "broke 0 39 1 = 0");
        last("row 5 2 9 = 9", "set 5 8 4 = 4", "broke 5 8 1 = 132");
        last("copy 0 2 0 1 2 = 2", "broke 0 2 1 = 132");
        last("drop 0 = 4", "status = 0");
        last("as 0 5 = KIND", "status = 3");
        last("ask 3 0 = -8", "trace 5 = 20");
        last("drawn 60 7 0 = 7", "ahead 1 = 4");
        last("who 2 0 0 1 = 42", "kind 2 = 5");
    }

    /** What changes nothing answers the same, and as often as one may ask. */
    private static void againAndAgain() {
        for (String line : new String[] {"ahead 60 = 9", "comesTo 3 60 = 1", "kept 2 = 40", "past 9 = 40",
            "visits 60 = 1023", "rest = 40", "least 2 0 24 = NONE", "buyOff 6 1 1 = 8", "holds 1 = 8",
            "broke 0 0 1 = 132", "sworn 2 0 0 1 = 1023", "who 2 0 0 1 = 42", "late 0 = NONE", "lies 4 3 1 = 10",
            "order 0 = 3", "drawn 60 7 0 = 7", "image 1 = 1", "restore 0 = 1", "row 3 2 40 = 40", "set 0 3 4 = 4",
            "copy 0 0 0 0 4 = 4", "kind 4 = 3", "as 4 1 = 4", "as 4 2 = KIND", "ask 3 0 = -8", "trace 3 = 10",
            "count 6 = 5", "fault = 2", "status = 5", "coach 1 = 3", "oath 3 4 = 6", "buy 4 = STATE",
            "snow 2 1 = STATE", "hours 25 = BAD", "feed 256 = BAD"}) {
            List<String> calls = state();
            while (calls.size() < CALLS) {
                calls.add(line);
            }
            runAll(calls);
        }
    }

    /** Hundreds of ACTS: of each number of them the latest 24 can be undone. */
    private static void actsToTheEnd() {
        List<String> calls = new ArrayList<>();
        add(calls, "tell c0,0;o9,5,60; = 1");
        for (int i = 0; calls.size() < CALLS - 27; i++) {
            calls.add("swear 0 " + i % 10 + " " + (1 + i % 20) + " = " + (1 + i % 20));
        }
        int sworn = CALLS - 27 - "c0,0;o9,5,60;".length() - 1;
        calls.add("count 6 = 24");
        for (int left = 23; left >= 0; left--) {
            calls.add("undo = " + left);
        }
        int forgotten = sworn - 24 - 1;
        add(calls, "undo = STATE", "oath 0 0 = " + forgotten % 10);
        Check.same("calls", calls.size(), CALLS);
        runAll(calls);

        calls = new ArrayList<>();
        add(calls, "tell c0,0;v9,2,60; = 1");
        while (calls.size() < CALLS - 2) {
            add(calls, "hours 1 = 1", "undo = 0");
        }
        add(calls, "hours 24 = 9", "count 4 = 6");
        runAll(calls.subList(0, CALLS));
    }
}
