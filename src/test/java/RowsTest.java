/** Promises 2 to 5, and what status (39) says of them. */
public final class RowsTest {
    public static void main(String[] args) {
        row();
        itemsAreNoughtAtFirst();
        set();
        whatIsSetStands();
        copy();
        copyOfEachLane();
        copyFindings();
        drop();
        eightRows();
        status();
        Check.finish();
    }

    private static void row() {
        OathCoach x = new OathCoach();
        Check.same("row(-1)", x.row(-1, 0, 1), Check.BAD);
        Check.same("row(8)", x.row(8, 0, 1), Check.BAD);
        Check.same("lane -1", x.row(0, -1, 1), Check.BAD);
        Check.same("lane 3", x.row(0, 3, 1), Check.BAD);
        Check.same("lanes far beyond", x.row(0, 4, 1) + x.row(0, Integer.MAX_VALUE, 1), 2 * Check.BAD);
        Check.same("41 items", x.row(0, 0, 41), Check.BAD);
        Check.same("BAD is ahead of SIZE", x.row(8, 0, -1), Check.BAD);
        Check.same("BAD lane is ahead of SIZE", x.row(0, 3, -1), Check.BAD);
        Check.same("SIZE", x.row(0, 0, -1), Check.SIZE);
        Check.same("SIZE by far", x.row(0, 0, Integer.MIN_VALUE), Check.SIZE);
        Check.same("no row came of it", x.count(0), 0);
        Check.same("40 items", x.row(7, 2, 40), 40);
        Check.same("no items", x.row(0, 1, 0), 0);
        Check.same("rows", x.count(0), 2);
        Check.same("set", x.set(7, 39, 5), 5);
        Check.same("SIZE leaves what is there", x.row(7, 0, -1), Check.SIZE);
        Check.same("copy of what is there", x.copy(7, 39, 7, 0, 1), 1);
        Check.same("in place of what is there", x.row(7, 2, 40), 40);
        Check.same("rows yet", x.count(0), 2);
    }

    private static void itemsAreNoughtAtFirst() {
        OathCoach x = Check.coachOf("c0,0;o0,1,1;");
        Check.rowOf(x, 0, 5, 5, 5, 5);
        Check.says(x, "row 0 1 3 = 3", "broke 0 0 3 = 129");
        Check.rowOf(x, 0, 5, 5, 5);
        Check.says(x, "row 0 0 1 = 1", "row 0 0 3 = 3", "broke 0 0 3 = 129");
        Check.rowOf(x, 0, 5, 5, 5);
        Check.says(x, "drop 0 = 3", "row 0 2 3 = 3", "broke 0 0 3 = 129");
        Check.says(x, "row 1 2 40 = 40", "broke 1 0 12 = 129", "broke 1 28 12 = 129", "broke 1 29 12 = PLACE");
    }

    private static void set() {
        OathCoach x = new OathCoach();
        x.row(0, 0, 2);
        x.row(1, 1, 2);
        x.row(2, 2, 2);
        Check.same("a byte", x.set(0, 0, 127), 127);
        Check.same("a byte wraps", x.set(0, 0, 128), -128);
        Check.same("its lowest bits", x.set(0, 1, 0x12345), 0x45);
        Check.same("a byte below 0", x.set(0, 1, -129), 127);
        Check.same("a short", x.set(1, 0, 32767), 32767);
        Check.same("a short wraps", x.set(1, 0, 32768), -32768);
        Check.same("its lowest bits", x.set(1, 1, 0x12345), 0x2345);
        Check.same("an int", x.set(2, 1, Integer.MIN_VALUE), Integer.MIN_VALUE);
        Check.same("below its places", x.set(2, -1, 0), Check.PLACE);
        Check.same("beyond its places", x.set(2, 2, 0), Check.PLACE);
        Check.same("far beyond", x.set(2, Integer.MAX_VALUE, 0), Check.PLACE);
        Check.same("missing", x.set(3, 0, 0), Check.NULL);
        Check.same("missing is ahead of PLACE", x.set(3, -1, 0), Check.NULL);
        Check.same("BAD", x.set(8, 0, 0), Check.BAD);
        Check.same("BAD", x.set(-1, 0, 0), Check.BAD);
    }

    /** A coach that stays at 4 fits a row whose item is 4, and no other. */
    private static void whatIsSetStands() {
        int[] highest = {256, 65536, 0};
        for (int lane = 0; lane < 3; lane++) {
            OathCoach x = Check.coachOf("c4,0;o4,1,1;");
            Check.same("row", x.row(0, lane, 40), 40);
            Check.same("the last item", x.set(0, 39, 4 + highest[lane]), 4);
            Check.says(x, "broke 0 39 1 = 129", "broke 0 38 1 = 0", "set 0 0 4 = 4", "broke 0 0 1 = 129",
                "broke 0 1 1 = 0", "set 0 0 -4 = -4", "broke 0 0 1 = 0", "set 0 40 4 = PLACE", "set 0 -1 4 = PLACE");
        }
        OathCoach x = new OathCoach();
        Check.says(x, "row 0 0 1 = 1", "set 0 0 -128 = -128", "set 0 0 255 = -1", "set 0 0 256 = 0",
            "set 0 0 MAX = -1", "set 0 0 MIN = 0");
        Check.says(x, "row 0 1 1 = 1", "set 0 0 -32768 = -32768", "set 0 0 -32769 = 32767", "set 0 0 65535 = -1",
            "set 0 0 65536 = 0", "set 0 0 128 = 128", "set 0 0 MAX = -1", "set 0 0 MIN = 0");
        Check.says(x, "row 0 2 1 = 1", "set 0 0 65536 = 65536", "set 0 0 MAX = MAX", "set 0 0 -1 = -1");
    }

    /** What stands in a row is read by where a coach is told to be: it stays at 4, so that a row of 4s fits. */
    private static void expectFours(OathCoach x, int row, int from, int n, boolean fits) {
        int want = fits ? 129 : 0;
        Check.same("row " + row + " from " + from, x.broke(row, from, n), want);
    }

    private static void copy() {
        OathCoach x = Check.coachOf("c4,0;o4,1,1;");
        Check.rowOf(x, 0, 4, 4, 0, 0, 0);
        Check.rowOf(x, 1, 7, 7, 7);
        Check.same("copy", x.copy(0, 0, 1, 1, 2), 2);
        expectFours(x, 1, 1, 2, true);
        expectFours(x, 1, 0, 1, false);
        Check.same("copy of none", x.copy(0, 5, 1, 3, 0), 0);
        Check.same("as they were ahead", x.copy(0, 0, 0, 1, 4), 4);
        expectFours(x, 0, 0, 3, true);
        expectFours(x, 0, 3, 1, false);
        Check.same("backwards", x.copy(0, 1, 0, 0, 4), 4);
        expectFours(x, 0, 0, 2, true);
        expectFours(x, 0, 2, 1, false);
    }

    private static void copyOfEachLane() {
        for (int lane = 0; lane < 3; lane++) {
            OathCoach x = Check.coachOf("c4,0;o4,1,1;");
            x.row(6, lane, 40);
            x.row(7, lane, 40);
            Check.says(x, "set 6 0 4 = 4", "set 6 39 4 = 4", "copy 6 0 7 0 40 = 40", "broke 7 0 1 = 129",
                "broke 7 39 1 = 129", "broke 7 1 1 = 0", "copy 6 0 7 0 41 = PLACE", "copy 6 39 7 5 1 = 1",
                "broke 7 5 1 = 129", "copy 6 39 7 39 2 = PLACE", "copy 6 40 7 40 0 = 0", "copy 6 41 7 0 0 = PLACE",
                "copy 6 0 7 41 0 = PLACE");
            x.row(5, lane, 0);
            Check.says(x, "copy 5 0 5 0 0 = 0", "copy 6 40 5 0 0 = 0", "copy 5 0 6 0 1 = PLACE",
                "copy 6 0 5 0 1 = PLACE");
        }
    }

    private static void copyFindings() {
        OathCoach x = new OathCoach();
        x.row(0, 0, 3);
        x.row(1, 1, 3);
        x.row(2, 0, 5);
        Check.same("BAD a", x.copy(8, 0, 0, 0, 0), Check.BAD);
        Check.same("BAD b", x.copy(0, 0, -1, 0, 0), Check.BAD);
        Check.same("BAD is ahead of NULL", x.copy(7, 0, 8, 0, 0), Check.BAD);
        Check.same("NULL a", x.copy(7, 0, 0, 0, 0), Check.NULL);
        Check.same("NULL b", x.copy(0, 0, 7, -1, 0), Check.NULL);
        Check.same("STORE", x.copy(0, 0, 1, 0, 0), Check.STORE);
        Check.same("STORE is ahead of PLACE", x.copy(0, -1, 1, 9, -1), Check.STORE);
        Check.same("i below 0", x.copy(0, -1, 2, 0, 1), Check.PLACE);
        Check.same("j below 0", x.copy(0, 0, 2, -1, 1), Check.PLACE);
        Check.same("n below 0", x.copy(0, 0, 2, 0, -1), Check.PLACE);
        Check.same("beyond the end of a", x.copy(0, 1, 2, 0, 3), Check.PLACE);
        Check.same("beyond the end of b", x.copy(2, 0, 0, 0, 4), Check.PLACE);
        Check.same("none beyond the end", x.copy(0, 4, 2, 0, 0), Check.PLACE);
        Check.same("a sum that wraps", x.copy(0, Integer.MAX_VALUE, 2, 0, Integer.MAX_VALUE), Check.PLACE);
        Check.same("a sum that wraps", x.copy(0, 1, 2, 1, Integer.MAX_VALUE), Check.PLACE);
        Check.same("all of it", x.copy(0, 0, 2, 2, 3), 3);
    }

    private static void drop() {
        OathCoach x = new OathCoach();
        x.row(3, 0, 7);
        Check.same("drop", x.drop(3), 7);
        Check.same("rows", x.count(0), 0);
        Check.same("again", x.drop(3), Check.NULL);
        Check.same("BAD", x.drop(8), Check.BAD);
        Check.same("BAD", x.drop(-1), Check.BAD);
        x.row(3, 0, 0);
        Check.same("of none", x.drop(3), 0);
    }

    private static void eightRows() {
        OathCoach x = new OathCoach();
        for (int row = 0; row < 8; row++) {
            Check.same("row " + row, x.row(row, row % 3, 40 - row), 40 - row);
            Check.same("rows", x.count(0), row + 1);
        }
        for (int row = 0; row < 8; row++) {
            Check.same("drop " + row, x.drop(row), 40 - row);
            Check.same("rows yet", x.count(0), 7 - row);
        }
    }

    private static void status() {
        OathCoach x = Check.coachOf("c0,0;o4,1,1;");
        x.drop(0);
        Check.same("NULL", x.status(), 1);
        x.drop(9);
        Check.same("BAD leaves it", x.status(), 1);
        x.row(0, 0, 2);
        Check.same("none", x.status(), 0);
        x.set(0, 2, 1);
        Check.same("PLACE", x.status(), 2);
        x.set(0, 1, 1);
        Check.same("none", x.status(), 0);
        x.row(1, 0, -1);
        Check.same("SIZE", x.status(), 4);
        x.ahead(3);
        x.count(0);
        Check.same("other calls leave it", x.status(), 4);
        x.row(1, 1, 1);
        x.copy(0, 0, 1, 0, 1);
        Check.same("STORE", x.status(), 5);
        x.copy(0, 0, 0, 1, 1);
        Check.same("none", x.status(), 0);
        x.as(0, 4);
        Check.same("KIND", x.status(), 3);
        x.as(0, 6);
        Check.same("BAD leaves it", x.status(), 3);
        x.as(0, 1);
        Check.same("none", x.status(), 0);
        statusOfTold(x);
    }

    private static void statusOfTold(OathCoach x) {
        x.broke(7, 0, 1);
        Check.same("broke NULL", x.status(), 1);
        x.broke(0, 0, 1);
        Check.same("broke none", x.status(), 0);
        x.sworn(0, 0, 2, 1);
        Check.same("sworn PLACE", x.status(), 2);
        x.sworn(0, 0, 0, 1);
        Check.same("sworn none", x.status(), 0);
        x.who(0, 0, -1, 1);
        Check.same("who PLACE", x.status(), 2);
        x.buy(0);
        Check.same("sworn STATE", x.sworn(0, 0, 0, 1), Check.STATE);
        Check.same("STATE leaves it", x.status(), 2);
        x.who(0, 0, 0, 1);
        Check.same("who none", x.status(), 0);
        x.drop(7);
        x.drop(0);
        Check.same("drop none", x.status(), 0);
    }
}
