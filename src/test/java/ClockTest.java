/** Promises 10 to 15: CLOCKS, STEPS, what is shown, OFF and WORST. */
public final class ClockTest {
    private static final int DAY = 86_400;
    private static final long SHOWN = 100_000_000L;

    public static void main(String[] args) {
        clocks();
        plainDay();
        longerDay();
        shorterDay();
        steps();
        stepsOfSecondsThatAreNot();
        mostSteps();
        off();
        worst();
        worstOfOneAmongMany();
        worstStatuses();
        Check.end("ClockTest");
    }

    /** A CLOCK of each WAY, all told of a DAY of a kind that is true. */
    private static LeapNet fourTold(int day, int kind) {
        LeapNet x = new LeapNet();
        x.leap(day, kind);
        x.server(1);
        for (int way = 0; way < 4; way++) {
            x.clock(way);
            x.notice(0, way, day, kind, 0);
        }
        return x;
    }

    private static void dueShown(LeapNet x, int count, long... shown) {
        for (int i = 0; i < shown.length; i++) {
            Check.due(x, "shows(" + i + ", " + count + ")", x.shows(i, count), shown[i], 0);
        }
    }

    private static void clocks() {
        LeapNet x = new LeapNet();
        Check.refused(x, "clock(-1)", x.clock(-1), 5);
        Check.refused(x, "clock(4)", x.clock(4), 5);
        for (int i = 0; i < 12; i++) {
            Check.due(x, "clock " + i, x.clock(i % 4), i, 0);
        }
        Check.refused(x, "a 13th", x.clock(0), 7);
        Check.refused(x, "5 ahead of 7", x.clock(4), 5);
        Check.refused(x, "shows(12, 0)", x.shows(12, 0), 2);
        Check.refused(x, "shows(-1, 0)", x.shows(-1, -1), 2);
        Check.refused(x, "shows(11, -1)", x.shows(11, -1), 5);
        Check.refused(x, "shows(11, 900000001)", x.shows(11, 900_000_001), 5);
        Check.refused(x, "ahead(12, 0)", x.ahead(12, 900_000_001), 2);
        Check.refused(x, "ahead(11, -1)", x.ahead(11, -1), 5);
        Check.refused(x, "ahead(11, 900000001)", x.ahead(11, 900_000_001), 5);
        Check.due(x, "shows(11, 900000000)", x.shows(11, 900_000_000), 10_416 * SHOWN + 57_600_000, 0);
        Check.due(x, "ahead(11, 900000000)", x.ahead(11, 900_000_000), 0, 0);
    }

    private static void plainDay() {
        LeapNet x = fourTold(7, 1);
        dueShown(x, 0, 0, 0, 0, 0);
        dueShown(x, DAY - 1, 86_399_000, 86_399_000, 86_399_000, 86_399_000);
        dueShown(x, DAY, SHOWN, SHOWN, SHOWN, SHOWN);
        dueShown(x, 8 * DAY + 2, 8 * SHOWN + 1000, 8 * SHOWN + 1000, 8 * SHOWN + 1000, 8 * SHOWN + 1000);
    }

    private static void longerDay() {
        LeapNet x = fourTold(1, 1);
        dueShown(x, DAY, SHOWN, SHOWN, SHOWN, SHOWN);
        dueShown(x, DAY + 1, SHOWN + 1000, SHOWN + 1000, SHOWN + 1000, SHOWN + 999);
        long noon = SHOWN + 43_200_000;
        dueShown(x, DAY + 43_200, noon, noon, noon, SHOWN + 43_199_500);
        long last = SHOWN + 86_399_000;
        dueShown(x, 2 * DAY - 1, last, last, last, SHOWN + 86_398_000);
        dueShown(x, 2 * DAY, SHOWN + 86_400_000, last, SHOWN + 86_399_999, last);
        dueShown(x, 2 * DAY + 1, 2 * SHOWN, 2 * SHOWN, 2 * SHOWN, 2 * SHOWN);
    }

    private static void shorterDay() {
        LeapNet x = fourTold(1, -1);
        dueShown(x, DAY + 1, SHOWN + 1000, SHOWN + 1000, SHOWN + 1000, SHOWN + 1000);
        long noon = SHOWN + 43_200_000;
        dueShown(x, DAY + 43_200, noon, noon, noon, SHOWN + 43_200_500);
        long last = SHOWN + 86_398_000;
        dueShown(x, 2 * DAY - 2, last, last, last, SHOWN + 86_398_999);
        dueShown(x, 2 * DAY - 1, 2 * SHOWN, 2 * SHOWN, 2 * SHOWN, 2 * SHOWN);
    }

    private static void dueAhead(LeapNet x, int clock, int count, int ahead) {
        Check.due(x, "ahead(" + clock + ", " + count + ")", x.ahead(clock, count), ahead, 0);
    }

    private static void steps() {
        LeapNet x = new LeapNet();
        x.clock(0);
        x.clock(0);
        x.leap(1, 1);
        x.leap(3, 1);
        x.leap(4, -1);
        x.leap(6, -1);
        x.leap(7, -1);
        Check.taken(x, "step of day 5", x.step(0, 5 * DAY + 10));
        Check.taken(x, "step of day 4, told later", x.step(0, 4 * DAY + 10));
        Check.taken(x, "step of day 2", x.step(0, 2 * DAY + 10));
        Check.taken(x, "step of day 9", x.step(0, 9 * DAY));
        dueAhead(x, 0, 0, 0);
        dueAhead(x, 0, 2 * DAY + 9, 0);
        dueAhead(x, 0, 2 * DAY + 10, -1);
        dueAhead(x, 0, 4 * DAY + 9, -1);
        dueAhead(x, 0, 4 * DAY + 10, -2);
        dueAhead(x, 0, 5 * DAY + 9, -2);
        dueAhead(x, 0, 5 * DAY + 10, -1);
        dueAhead(x, 0, 9 * DAY - 1, -1);
        dueAhead(x, 0, 9 * DAY, 1);
        dueAhead(x, 0, 900_000_000, 1);
        dueAhead(x, 1, 9 * DAY, 0);
        Check.due(x, "shows ahead of the step", x.shows(0, 2 * DAY + 9), 2 * SHOWN + 9_000, 0);
        Check.due(x, "shows behind the step", x.shows(0, 2 * DAY + 10), 2 * SHOWN + 9_000, 0);
        Check.due(x, "shows at last", x.shows(0, 9 * DAY), 9 * SHOWN + 1_000, 0);
        Check.due(x, "shows the other", x.shows(1, 9 * DAY), 9 * SHOWN, 0);
        x.leap(1, 0);
        dueAhead(x, 0, 2 * DAY + 10, 0);
        x.server(0);
        x.notice(0, 0, 3, 1, 0);
        dueAhead(x, 0, 4 * DAY + 10, 0);
        dueAhead(x, 0, 5 * DAY + 10, 1);
    }

    private static void stepsOfSecondsThatAreNot() {
        LeapNet x = new LeapNet();
        x.clock(0);
        x.clock(0);
        x.server(0);
        x.leap(1, 1);
        x.notice(0, 1, 1, -1, 0);
        x.step(0, 2 * DAY);
        dueAhead(x, 0, 2 * DAY, 0);
        Check.due(x, "SECOND 86400 that it has not", x.shows(0, 2 * DAY), 2 * SHOWN, 0);
        x.step(1, 2 * DAY - 1);
        dueAhead(x, 1, 2 * DAY - 1, 0);
        Check.due(x, "SECOND 86399 that it has not", x.shows(1, 2 * DAY - 1), 2 * SHOWN, 0);
        x.step(1, 2 * DAY);
        dueAhead(x, 1, 2 * DAY, -1);
        Check.due(x, "SECOND 86400 that it has not", x.shows(1, 2 * DAY), 2 * SHOWN, 0);
        x.step(1, 2 * DAY + 1);
        dueAhead(x, 1, 2 * DAY + 1, -2);
        x.step(1, 2 * DAY - 2);
        dueAhead(x, 1, 2 * DAY - 2, 0);
        Check.due(x, "SECOND 86398", x.shows(1, 2 * DAY - 2), SHOWN + 86_398_000, 0);
    }

    private static void mostSteps() {
        LeapNet x = new LeapNet();
        Check.refused(x, "step(0, 0)", x.step(0, 0), 2);
        x.clock(0);
        x.clock(1);
        Check.refused(x, "step(2, -1)", x.step(2, -1), 2);
        Check.refused(x, "step(-1, 0)", x.step(-1, 0), 2);
        Check.refused(x, "step(0, -1)", x.step(0, -1), 5);
        Check.refused(x, "step(0, 900000001)", x.step(0, 900_000_001), 5);
        for (int i = 0; i < 60; i++) {
            Check.taken(x, "step " + i, x.step(i % 2, 900_000_000 - i));
        }
        Check.refused(x, "a 61st", x.step(0, 5), 7);
        Check.refused(x, "5 ahead of 7", x.step(0, -5), 5);
        Check.refused(x, "2 ahead of 5", x.step(5, -5), 2);
    }

    private static void off() {
        LeapNet x = fourTold(1, 1);
        Check.due(x, "repeats against tells", x.off(1, 0, 2 * DAY), -1000, 0);
        Check.due(x, "tells against repeats", x.off(0, 1, 2 * DAY), 1000, 0);
        Check.due(x, "stops against tells", x.off(2, 0, 2 * DAY), -1, 0);
        Check.due(x, "itself", x.off(3, 3, 2 * DAY), 0, 0);
        x.clock(0);
        Check.due(x, "the next DAY's 0 is 86,400,000", x.off(4, 0, 2 * DAY), 0, 0);
        Check.due(x, "the next DAY's 0 is later than 86,399,000", x.off(4, 1, 2 * DAY), 1000, 0);
        Check.due(x, "a second more", x.off(4, 0, 50 * DAY), 1000, 0);
        Check.refused(x, "off(5, 0, 0)", x.off(5, 0, -1), 2);
        Check.refused(x, "off(0, 5, 0)", x.off(0, 5, -1), 2);
        Check.refused(x, "off(-1, 0, 0)", x.off(-1, 0, 0), 2);
        Check.refused(x, "off(0, -1, 0)", x.off(0, -1, 0), 2);
        Check.refused(x, "off(0, 1, -1)", x.off(0, 1, -1), 5);
        Check.refused(x, "off(0, 1, 900000001)", x.off(0, 1, 900_000_001), 5);
    }

    private static void worst() {
        LeapNet x = fourTold(1, 1);
        Check.due(x, "worst(86400, 86400, 0)", x.worst(DAY, DAY, 0), 0, 0);
        Check.due(x, "worst(86400, 86400, 1)", x.worst(DAY, DAY, 1), DAY, 0);
        Check.due(x, "worst(86000, 88000, 0)", x.worst(86_000, 88_000, 0), 19, 0);
        // 86400000 * 1556 / 86401 is 1555981.99: the 1,556th SECOND is the first to lack 19
        Check.due(x, "worst(86000, 88000, 1)", x.worst(86_000, 88_000, 1), DAY + 1_556, 0);
        x.clock(2);
        Check.due(x, "worst(172799, 172801, 0)", x.worst(2 * DAY - 1, 2 * DAY + 1, 0), 1000, 0);
        Check.due(x, "worst(172799, 172801, 1)", x.worst(2 * DAY - 1, 2 * DAY + 1, 1), 2 * DAY - 1, 0);
        x.step(4, 2 * DAY + 5);
        Check.due(x, "worst behind the step", x.worst(2 * DAY + 5, 2 * DAY + 6, 0), 0, 0);
        Check.due(x, "worst, its first COUNT", x.worst(2 * DAY + 4, 2 * DAY + 6, 1), 2 * DAY + 4, 0);
        Check.due(x, "worst at the end", x.worst(899_998_000, 900_000_000, 1), 899_998_000, 0);
    }

    private static void worstOfOneAmongMany() {
        LeapNet x = new LeapNet();
        x.leap(1, 1);
        x.leap(2, 1);
        x.leap(3, 1);
        for (int i = 0; i < 12; i++) {
            x.clock(0);
        }
        x.step(7, 4 * DAY + 1_000);
        Check.due(x, "ahead of the step", x.worst(4 * DAY, 4 * DAY + 999, 0), 0, 0);
        Check.due(x, "with the step", x.worst(4 * DAY, 4 * DAY + 1_000, 0), 3_000, 0);
        Check.due(x, "when", x.worst(4 * DAY, 4 * DAY + 2_000, 1), 4 * DAY + 1_000, 0);
    }

    private static void worstStatuses() {
        LeapNet x = new LeapNet();
        Check.refused(x, "no clocks", x.worst(0, 1, 0), 8);
        x.clock(0);
        Check.refused(x, "one clock", x.worst(0, 1, 0), 8);
        Check.refused(x, "5 ahead of 8", x.worst(1, 0, 0), 5);
        x.clock(0);
        Check.due(x, "two clocks", x.worst(0, 1, 0), 0, 0);
        Check.due(x, "2,000 on", x.worst(10, 2_010, 1), 10, 0);
        Check.refused(x, "2,001 on", x.worst(10, 2_011, 1), 5);
        Check.refused(x, "from behind to", x.worst(11, 10, 0), 5);
        Check.refused(x, "from -1", x.worst(-1, 10, 0), 5);
        Check.refused(x, "to 900000001", x.worst(900_000_000, 900_000_001, 0), 5);
        Check.refused(x, "what 2", x.worst(0, 1, 2), 5);
        Check.refused(x, "what -1", x.worst(0, 1, -1), 5);
        Check.refused(x, "far apart", x.worst(Integer.MIN_VALUE, Integer.MAX_VALUE, 0), 5);
    }
}
