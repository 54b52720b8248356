/** Promises 34 to 38: kinds, asks, the trace, and what is counted. */
public final class AskTest {
    private static final String ALL_KINDS = "c0,0;o7,5,9;m7,5,9;l7,5,9;f7,5,9;v7,5,9;";

    public static void main(String[] args) {
        kinds();
        as();
        asks();
        asksOfTheLast();
        askAndTraceRefused();
        counts();
        countsUndone();
        Check.finish();
    }

    private static void kinds() {
        OathCoach x = Check.coachOf(ALL_KINDS);
        for (int i = 0; i < 5; i++) {
            Check.same("kind of " + i, x.kind(i), i + 1);
        }
        Check.same("no such one", x.kind(5), Check.BAD);
        Check.same("no such one", x.kind(-1), Check.BAD);
    }

    private static void as() {
        OathCoach x = Check.coachOf(ALL_KINDS);
        int[] isThese = {0b000011, 0b000111, 0b001011, 0b010001, 0b110001};
        for (int one = 0; one < 5; one++) {
            for (int kind = 0; kind < 6; kind++) {
                boolean is = (isThese[one] >> kind & 1) != 0;
                Check.same(one + " as " + kind, x.as(one, kind), is ? one : Check.KIND);
                Check.same("status of " + one + " as " + kind, x.status(), is ? 0 : 3);
            }
        }
        Check.same("no such kind", x.as(0, 6), Check.BAD);
        Check.same("no such kind", x.as(0, -1), Check.BAD);
        Check.same("no such one", x.as(5, 0), Check.BAD);
        Check.same("no such one", x.as(-1, 0), Check.BAD);
    }

    private static void asked(OathCoach x, int one, int what, int answer, int... traced) {
        Check.same("ask " + what + " of " + one, x.ask(one, what), answer);
        for (int i = 0; i < traced.length; i++) {
            Check.same("trace " + i + " of ask " + what + " of " + one, x.trace(i), traced[i]);
        }
        for (int i = traced.length; i < 20; i++) {
            Check.same("no trace " + i + " of ask " + what + " of " + one, x.trace(i), Check.NONE);
        }
    }

    private static void asks() {
        OathCoach x = Check.coachOf(ALL_KINDS);
        asked(x, 0, 0, 12, 11, 10, 21, 20);
        asked(x, 0, 1, 7, 21, 20);
        asked(x, 1, 0, -21, 12, 11, 10, 24, 21, 20);
        asked(x, 1, 1, 16, 24, 21, 20);
        asked(x, 2, 0, -986, 11, 10, 22, 21, 20);
        asked(x, 2, 1, -991, 22, 21, 20);
        asked(x, 3, 0, -95, 13, 10);
        asked(x, 3, 1, 98, 23, 20, 13, 10);
        asked(x, 4, 0, -190, 14, 13, 10);
        asked(x, 4, 1, 194, 23, 20, 14, 13, 10);
        x.swear(0, 2, 20);
        asked(x, 0, 0, 22, 11, 10, 21, 20);
    }

    /** The last number, the last PLACE, the most WEIGHT. */
    private static void asksOfTheLast() {
        int[] size = {35, -50, -965, -80, -160};
        int[] mark = {15, 30, -985, 86, 166};
        for (int kind = 1; kind <= 5; kind++) {
            OathCoach x = Check.coachOf("c0,0;" + "o0,1,1;".repeat(6) + "omlfv".charAt(kind - 1) + "9,20,60;");
            Check.says(x, "kind 6 = " + kind, "as 6 0 = 6", "as 6 " + kind + " = 6", "kind 7 = BAD", "as 7 0 = BAD",
                "ask 7 0 = BAD", "ask 6 0 = " + size[kind - 1], "ask 6 1 = " + mark[kind - 1]);
            Check.says(x, "buy 6 = 6", "ask 6 0 = " + size[kind - 1], "ask 6 1 = " + mark[kind - 1], "as 6 0 = 6",
                "swear 6 0 1 = " + new int[] {1, 3, 0, 6, 6}[kind - 1], "kind 6 = " + kind);
        }
    }

    private static void askAndTraceRefused() {
        OathCoach x = Check.coachOf(ALL_KINDS);
        Check.same("nothing was asked", x.trace(0), Check.NONE);
        x.ask(0, 1);
        Check.same("no such one", x.ask(5, 0), Check.BAD);
        Check.same("no such one", x.ask(-1, 0), Check.BAD);
        Check.same("no such ask", x.ask(0, 2), Check.BAD);
        Check.same("no such ask", x.ask(0, -1), Check.BAD);
        Check.same("what is refused leaves the trace", x.trace(0), 21);
        Check.same("below", x.trace(-1), Check.NONE);
        Check.same("beyond", x.trace(2), Check.NONE);
        Check.same("far beyond", x.trace(Integer.MAX_VALUE), Check.NONE);
        Check.same("far below", x.trace(Integer.MIN_VALUE), Check.NONE);
    }

    private static void counts() {
        OathCoach x = Check.coachOf("c0,0;o1,5,9;f1,5,9;v1,1,9;o9,1,1;");
        x.row(0, 0, 3);
        x.row(5, 2, 0);
        x.hours(3);
        x.feed(99);
        int[] want = {2, 4, 12, 3, 2, 1, 3, 1};
        for (int what = 0; what < 8; what++) {
            Check.same("count " + what, x.count(what), want[what]);
        }
        Check.same("no such thing", x.count(8), Check.BAD);
        Check.same("no such thing", x.count(-1), Check.BAD);
    }

    private static void countsUndone() {
        OathCoach x = Check.coachOf("c0,0;f1,1,1;o2,1,60;");
        Check.says(x, "count 4 = 0", "count 5 = 0", "hours 2 = 2", "count 2 = 0", "count 4 = 1", "count 5 = 1",
            "undo = 1", "count 4 = 0", "count 5 = 1", "undo = 0", "count 5 = 0", "count 2 = 3", "count 3 = 0");
    }
}
