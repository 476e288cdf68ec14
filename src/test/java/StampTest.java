/** Promises 24 to 26: STAMPS, WRONG pairs of them, and the CLOCKS that are BLAMED. */
public final class StampTest {
    private static final int DAY = 86_400;

    public static void main(String[] args) {
        statuses();
        none();
        repeated();
        equalCounts();
        stampsFollowTheTable();
        star();
        triangle();
        leastSet();
        mostClocks();
        Check.end("StampTest");
    }

    private static void dueBlamed(LeapNet x, int wrong, int many, int set, int rivals) {
        Check.due(x, "wrong()", x.wrong(), wrong, 0);
        Check.due(x, "blamed(0)", x.blamed(0), many, 0);
        Check.due(x, "blamed(1)", x.blamed(1), set, 0);
        Check.due(x, "blamed(2)", x.blamed(2), rivals, 0);
    }

    private static void statuses() {
        LeapNet x = new LeapNet();
        Check.refused(x, "stamp(0, 0)", x.stamp(0, 0), 2);
        x.clock(0);
        Check.refused(x, "stamp(1, -1)", x.stamp(1, -1), 2);
        Check.refused(x, "stamp(-1, 0)", x.stamp(-1, 0), 2);
        Check.refused(x, "stamp(0, -1)", x.stamp(0, -1), 5);
        Check.refused(x, "stamp(0, 900000001)", x.stamp(0, 900_000_001), 5);
        for (int i = 0; i < 60; i++) {
            Check.due(x, "stamp " + i, x.stamp(0, 1_000 + i / 2), i, 0);
            if (i == 30) {
                Check.refused(x, "a COUNT that is gone", x.stamp(0, 1_014), 12);
            }
        }
        Check.refused(x, "a 61st", x.stamp(0, 0), 7);
        Check.refused(x, "5 ahead of 7", x.stamp(0, -1), 5);
        Check.refused(x, "blamed(3)", x.blamed(3), 5);
        Check.refused(x, "blamed(-1)", x.blamed(-1), 5);
        dueBlamed(x, 0, 0, 0, 1);
    }

    private static void none() {
        LeapNet x = new LeapNet();
        dueBlamed(x, 0, 0, 0, 1);
        x.clock(1);
        x.clock(2);
        dueBlamed(x, 0, 0, 0, 1);
        x.stamp(1, 5);
        dueBlamed(x, 0, 0, 0, 1);
        x.stamp(0, 6);
        dueBlamed(x, 0, 0, 0, 1);
    }

    /** A CLOCK that repeats a SECOND is at odds with itself. */
    private static void repeated() {
        LeapNet x = new LeapNet();
        x.server(0);
        x.clock(0);
        x.clock(1);
        x.clock(2);
        for (int i = 0; i < 3; i++) {
            x.notice(0, i, 1, 1, 0);
        }
        for (int c = 2 * DAY - 1; c <= 2 * DAY; c++) {
            x.stamp(0, c);
            x.stamp(2, c);
        }
        dueBlamed(x, 0, 0, 0, 1);
        LeapNet y = new LeapNet();
        y.server(0);
        y.clock(0);
        y.clock(1);
        y.notice(0, 1, 1, 1, 0);
        y.stamp(1, 2 * DAY - 1);
        y.stamp(1, 2 * DAY);
        dueBlamed(y, 1, 1, 2, 1);
        y.stamp(0, 2 * DAY + 1);
        dueBlamed(y, 1, 1, 2, 1);
    }

    private static void equalCounts() {
        LeapNet x = new LeapNet();
        x.leap(1, 1);
        x.clock(0);
        x.clock(0);
        x.step(1, 2 * DAY + 10);
        x.stamp(0, 2 * DAY + 50);
        x.stamp(1, 2 * DAY + 50);
        dueBlamed(x, 0, 0, 0, 1);
        x.stamp(1, 2 * DAY + 51);
        dueBlamed(x, 1, 1, 1, 2);
        x.stamp(1, 2 * DAY + 52);
        dueBlamed(x, 1, 1, 1, 2);
    }

    /** A STAMP is what its CLOCK SHOWS there, by all that is told: also when that comes later. */
    private static void stampsFollowTheTable() {
        LeapNet x = new LeapNet();
        x.server(0);
        x.clock(1);
        x.stamp(0, 2 * DAY - 1);
        x.stamp(0, 2 * DAY);
        dueBlamed(x, 0, 0, 0, 1);
        x.notice(0, 0, 1, 1, 0);
        dueBlamed(x, 1, 1, 1, 1);
    }

    /** CLOCK 1 is three seconds behind the others, and its STAMPS stand among theirs. */
    private static void star() {
        LeapNet x = new LeapNet();
        x.leap(1, 1);
        x.leap(2, 1);
        x.leap(3, 1);
        for (int i = 0; i < 4; i++) {
            x.clock(0);
        }
        x.step(1, 4 * DAY + 10);
        x.stamp(0, 4 * DAY + 50);
        x.stamp(2, 4 * DAY + 50);
        x.stamp(3, 4 * DAY + 51);
        x.stamp(1, 4 * DAY + 52);
        dueBlamed(x, 3, 1, 2, 1);
        x.stamp(1, 4 * DAY + 53);
        // 53 less 3 is 50: not the lesser are those of 50 and of 51
        dueBlamed(x, 6, 1, 2, 1);
        x.stamp(1, 4 * DAY + 54);
        // 54 less 3 is 51: only that of CLOCK 3 is not the lesser
        dueBlamed(x, 7, 1, 2, 1);
    }

    /** Three CLOCKS, each with one more second between: any two of them must be changed. */
    private static void triangle() {
        LeapNet x = new LeapNet();
        for (int d = 1; d <= 4; d++) {
            x.leap(d, 1);
        }
        x.server(0);
        for (int i = 0; i < 4; i++) {
            x.clock(0);
        }
        x.notice(0, 2, 1, 1, 0);
        x.notice(0, 2, 2, 1, 0);
        for (int d = 1; d <= 4; d++) {
            x.notice(0, 3, d, 1, 0);
        }
        x.stamp(0, 5 * DAY + 100);
        x.stamp(2, 5 * DAY + 101);
        x.stamp(3, 5 * DAY + 102);
        dueBlamed(x, 3, 2, 5, 3);
        x.stamp(1, 5 * DAY + 103);
        dueBlamed(x, 3, 2, 5, 3);
    }

    /** Two pairs that have nothing to do with one another: four sets of two. */
    private static void leastSet() {
        LeapNet x = new LeapNet();
        x.leap(1, 1);
        x.leap(2, 1);
        for (int i = 0; i < 6; i++) {
            x.clock(0);
        }
        x.step(1, 3 * DAY + 1);
        x.step(4, 3 * DAY + 1);
        x.stamp(5, 3 * DAY + 100);
        x.stamp(4, 3 * DAY + 101);
        x.stamp(3, 3 * DAY + 200);
        x.stamp(1, 3 * DAY + 201);
        dueBlamed(x, 2, 2, 18, 4);
    }

    private static void mostClocks() {
        LeapNet x = new LeapNet();
        x.server(0);
        for (int i = 0; i < 12; i++) {
            x.clock(1);
            x.notice(0, i, 1, 1, 0);
        }
        for (int i = 0; i < 12; i++) {
            x.stamp(i, 2 * DAY - 1);
        }
        for (int i = 0; i < 12; i++) {
            x.stamp(i, 2 * DAY);
        }
        dueBlamed(x, 144, 12, 4_095, 1);
    }
}
