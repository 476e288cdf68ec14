/** Promises 19 to 23: SERVERS, NOTICES, what is BELIEVED of them, a CLOCK's TABLE and its MISSES. */
public final class NoticeTest {
    private static final int DAY = 86_400;

    public static void main(String[] args) {
        servers();
        noticeStatuses();
        mostNotices();
        inTime();
        latestCounts();
        falseAndFooled();
        textsInForce();
        variablesOfTheDay();
        alikeAndAgainst();
        ownRules();
        tablesAndMisses();
        laterChanges();
        Check.end("NoticeTest");
    }

    private static LeapNet net(int clocks) {
        LeapNet x = new LeapNet();
        x.server(0);
        for (int i = 0; i < clocks; i++) {
            x.clock(i % 4);
        }
        return x;
    }

    private static void dueTold(LeapNet x, int notice, int inTime, int believed, int isFalse, int fooled) {
        Check.due(x, "told(" + notice + ", 0)", x.told(notice, 0), inTime, 0);
        Check.due(x, "told(" + notice + ", 1)", x.told(notice, 1), believed, 0);
        Check.due(x, "told(" + notice + ", 2)", x.told(notice, 2), isFalse, 0);
        Check.due(x, "told(" + notice + ", 3)", x.told(notice, 3), fooled, 0);
    }

    private static void servers() {
        LeapNet x = new LeapNet();
        Check.refused(x, "server(-1)", x.server(-1), 5);
        Check.refused(x, "server(16)", x.server(16), 5);
        for (int i = 0; i < 8; i++) {
            Check.due(x, "server " + i, x.server(i == 7 ? 15 : i), i, 0);
        }
        Check.refused(x, "a ninth", x.server(0), 7);
        Check.refused(x, "5 ahead of 7", x.server(16), 5);
    }

    private static void noticeStatuses() {
        LeapNet x = net(1);
        Check.refused(x, "server 1", x.notice(1, 0, -1, 1, 0), 2);
        Check.refused(x, "server -1", x.notice(-1, 0, 1, 1, 0), 2);
        Check.refused(x, "clock 1", x.notice(0, 1, 1, 0, 0), 2);
        Check.refused(x, "clock -1", x.notice(0, -1, 1, 1, 0), 2);
        Check.refused(x, "day -1", x.notice(0, 0, -1, 1, 0), 5);
        Check.refused(x, "day 10000", x.notice(0, 0, 10_000, 1, 0), 5);
        Check.refused(x, "kind 0", x.notice(0, 0, 1, 0, 0), 5);
        Check.refused(x, "kind 2", x.notice(0, 0, 1, 2, 0), 5);
        Check.refused(x, "kind -2", x.notice(0, 0, 1, -2, 0), 5);
        Check.refused(x, "count -1", x.notice(0, 0, 1, 1, -1), 5);
        Check.refused(x, "count 900000001", x.notice(0, 0, 1, 1, 900_000_001), 5);
        Check.due(x, "day 9999", x.notice(0, 0, 9_999, 1, 500), 0, 0);
        Check.due(x, "the same COUNT", x.notice(0, 0, 0, -1, 500), 1, 0);
        Check.refused(x, "a COUNT that is gone", x.notice(0, 0, 0, -1, 499), 12);
        Check.refused(x, "told(2, 0)", x.told(2, 9), 2);
        Check.refused(x, "told(-1, 0)", x.told(-1, 0), 2);
        Check.refused(x, "told(0, 4)", x.told(0, 4), 5);
        Check.refused(x, "told(0, -1)", x.told(0, -1), 5);
        Check.refused(x, "table(1, 0)", x.table(1, -1), 2);
        Check.refused(x, "table(-1, 0)", x.table(-1, 0), 2);
        Check.refused(x, "table(0, -1)", x.table(0, -1), 5);
        Check.refused(x, "table(0, 10000)", x.table(0, 10_000), 5);
        Check.refused(x, "misses(1)", x.misses(1), 2);
        Check.refused(x, "misses(-1)", x.misses(-1), 2);
    }

    private static void mostNotices() {
        LeapNet x = net(1);
        for (int i = 0; i < 60; i++) {
            Check.due(x, "notice " + i, x.notice(0, 0, 9_000 - 7 * i, 1, 1_000), i, 0);
        }
        Check.refused(x, "a 61st", x.notice(0, 0, 1, 1, 0), 7);
        Check.refused(x, "5 ahead of 7", x.notice(0, 0, 1, 0, 0), 5);
        Check.refused(x, "2 ahead of 5", x.notice(0, 1, 1, 0, 0), 2);
        Check.due(x, "misses(0)", x.misses(0), 60, 0);
        Check.due(x, "table(0, 9000)", x.table(0, 9_000), 1, 0);
        Check.due(x, "table(0, 8587)", x.table(0, 8_587), 1, 0);
        Check.due(x, "shows", x.shows(0, 9_001 * DAY + 59), 900_086_400_000L, 0);
        Check.due(x, "shows", x.shows(0, 9_001 * DAY + 60), 900_100_000_000L, 0);
    }

    private static void inTime() {
        LeapNet x = net(1);
        x.leap(1, 1);
        x.leap(2, -1);
        x.notice(0, 0, 1, 1, 2 * DAY);
        dueTold(x, 0, 1, 1, 0, 0);
        x.notice(0, 0, 1, 1, 2 * DAY + 1);
        dueTold(x, 1, 0, 1, 0, 0);
        x.notice(0, 0, 2, -1, 3 * DAY - 1);
        dueTold(x, 2, 1, 1, 0, 0);
        x.notice(0, 0, 2, -1, 3 * DAY);
        dueTold(x, 3, 0, 1, 0, 0);
        x.notice(0, 0, 3, -1, 4 * DAY);
        dueTold(x, 4, 0, 1, 1, 0);
        Check.due(x, "table(0, 3)", x.table(0, 3), 0, 0);
        x.leap(3, 1);
        dueTold(x, 4, 1, 1, 1, 1);
        Check.due(x, "table(0, 3)", x.table(0, 3), -1, 0);
    }

    private static void latestCounts() {
        LeapNet x = net(2);
        x.notice(0, 0, 5, 1, 100);
        x.notice(0, 0, 5, -1, 100);
        x.notice(0, 1, 5, 1, 100);
        Check.due(x, "the latest", x.table(0, 5), -1, 0);
        Check.due(x, "of the other CLOCK", x.table(1, 5), 1, 0);
        dueTold(x, 0, 1, 1, 1, 0);
        dueTold(x, 1, 1, 1, 1, 1);
        dueTold(x, 2, 1, 1, 1, 1);
        x.notice(0, 0, 5, 1, 6 * DAY);
        Check.due(x, "the latest that is IN TIME", x.table(0, 5), -1, 0);
        dueTold(x, 3, 0, 1, 1, 0);
        dueTold(x, 1, 1, 1, 1, 1);
    }

    private static void falseAndFooled() {
        LeapNet x = net(1);
        x.leap(5, 1);
        x.notice(0, 0, 5, 1, 0);
        dueTold(x, 0, 1, 1, 0, 0);
        x.notice(0, 0, 5, -1, 0);
        dueTold(x, 1, 1, 1, 1, 1);
        x.notice(0, 0, 6, -1, 0);
        dueTold(x, 2, 1, 1, 1, 1);
        x.notice(0, 0, 5, 1, 0);
        dueTold(x, 1, 1, 1, 1, 0);
        dueTold(x, 3, 1, 1, 0, 0);
        x.notice(0, 0, 6, -1, 0);
        dueTold(x, 2, 1, 1, 1, 0);
        dueTold(x, 4, 1, 1, 1, 1);
    }

    private static void textsInForce() {
        LeapNet x = net(1);
        x.notice(0, 0, 9_000, 1, 9 * DAY);
        x.notice(0, 0, 9_001, 1, 10 * DAY - 1);
        x.notice(0, 0, 9_002, 1, 10 * DAY);
        x.notice(0, 0, 9_003, 1, 20 * DAY);
        dueBelieved(x, 1, 1, 1, 1);
        Check.due(x, "rules from 10", Check.rules(x, "believe:0;", 10), 1, 0);
        dueBelieved(x, 1, 1, 0, 0);
        Check.due(x, "rules from 20", Check.rules(x, "a:0;", 20), 1, 0);
        dueBelieved(x, 1, 1, 0, 1);
        Check.due(x, "rules from 0", Check.rules(x, "believe:0;", 0), 1, 0);
        dueBelieved(x, 0, 0, 0, 1);
        Check.due(x, "rules from 10, later", Check.rules(x, "believe:2;", 10), 1, 0);
        dueBelieved(x, 0, 0, 1, 1);
        Check.due(x, "misses", x.misses(0), 2, 0);
        x.leap(3, 1);
        dueBelieved(x, 0, 0, 0, 1);
    }

    private static void dueBelieved(LeapNet x, int... due) {
        for (int i = 0; i < due.length; i++) {
            Check.due(x, "told(" + i + ", 1)", x.told(i, 1), due[i], 0);
        }
    }

    /** The month and year of the TRUE DAY, at the edges of months and of the year. */
    private static void variablesOfTheDay() {
        int[][] due = {{0, 0, 0}, {29, 0, 0}, {30, 1, 0}, {359, 11, 0}, {360, 11, 0}, {364, 11, 0}, {365, 0, 1},
            {395, 1, 1}, {729, 11, 1}, {730, 0, 2}, {10_416, 6, 28}};
        for (int[] one : due) {
            LeapNet x = net(1);
            String text = "believe:if day=" + one[0] + " and month=" + one[1] + " and year=" + one[2]
                + " and ahead=9000-" + one[0] + " then 1 else 0;";
            Check.due(x, text, Check.rules(x, text, 0), 1, 0);
            x.notice(0, 0, 9_000, 1, one[0] * DAY);
            Check.due(x, text + " believed", x.told(0, 1), 1, 0);
        }
        LeapNet x = net(1);
        x.leap(2, 1);
        Check.rules(x, "believe:if ahead=0-1 and day=2 then 1 else 0;", 0);
        x.notice(0, 0, 1, 1, 3 * DAY);
        dueTold(x, 0, 0, 1, 1, 0);
    }

    private static void alikeAndAgainst() {
        LeapNet x = net(2);
        x.server(5);
        Check.rules(x, "believe:if alike=2 and against=1 then 1 else 0;", 0);
        x.notice(0, 0, 7, 1, 0);
        x.notice(1, 0, 7, 1, 0);
        x.notice(0, 0, 8, 1, 0);
        x.notice(0, 1, 7, 1, 0);
        x.notice(1, 0, 7, -1, 0);
        dueBelieved(x, 0, 0, 0, 0, 0);
        x.notice(0, 0, 7, 1, 0);
        Check.due(x, "two alike, one against", x.told(5, 1), 1, 0);
        x.notice(0, 0, 7, -1, 0);
        Check.due(x, "one alike, three against", x.told(6, 1), 0, 0);
        x.notice(0, 1, 7, 1, 0);
        Check.due(x, "another CLOCK: one alike", x.told(7, 1), 0, 0);
        Check.due(x, "table(0, 7)", x.table(0, 7), 1, 0);
        Check.due(x, "table(1, 7)", x.table(1, 7), 0, 0);
        // those that come late count, too
        LeapNet y = net(1);
        Check.rules(y, "believe:if alike>0 then 1 else 0;", 5);
        y.notice(0, 0, 2, 1, 4 * DAY);
        y.notice(0, 0, 2, 1, 5 * DAY);
        dueTold(y, 0, 0, 1, 1, 0);
        dueTold(y, 1, 0, 1, 1, 0);
    }

    private static void ownRules() {
        LeapNet x = new LeapNet();
        x.server(3);
        x.server(9);
        x.clock(2);
        x.clock(3);
        Check.rules(x, "low:if stratum<5 then 1 else 0; believe:if way=3 then low else if clock=0 and server=1"
            + " and kind=0-1 then 7 else 0;", 0);
        x.notice(0, 1, 3, 1, 0);
        x.notice(1, 1, 4, 1, 0);
        x.notice(0, 0, 3, -1, 0);
        x.notice(1, 0, 4, -1, 0);
        x.notice(1, 0, 4, 1, 0);
        dueBelieved(x, 1, 0, 0, 1, 0);
        Check.due(x, "table(1, 3)", x.table(1, 3), 1, 0);
        Check.due(x, "table(1, 4)", x.table(1, 4), 0, 0);
        Check.due(x, "table(0, 3)", x.table(0, 3), 0, 0);
        Check.due(x, "table(0, 4)", x.table(0, 4), -1, 0);
    }

    private static void tablesAndMisses() {
        LeapNet x = net(2);
        x.leap(2, 1);
        x.leap(4, -1);
        x.leap(6, 1);
        Check.due(x, "misses of three", x.misses(0), 3, 0);
        x.notice(0, 0, 4, -1, 0);
        Check.due(x, "misses of two", x.misses(0), 2, 0);
        x.notice(0, 0, 6, -1, 0);
        Check.due(x, "misses of two, one otherwise", x.misses(0), 2, 0);
        x.notice(0, 0, 3, 1, 0);
        Check.due(x, "misses of three, one not there", x.misses(0), 3, 0);
        Check.due(x, "misses of the other", x.misses(1), 3, 0);
        Check.due(x, "table(0, 9999)", x.table(0, 9_999), 0, 0);
        x.notice(0, 0, 9_999, -1, 0);
        Check.due(x, "table(0, 9999)", x.table(0, 9_999), -1, 0);
        x.notice(0, 0, 0, 1, 0);
        Check.due(x, "table(0, 0)", x.table(0, 0), 1, 0);
        Check.due(x, "shows of a longer DAY 0", x.shows(0, DAY), 86_400_000, 0);
    }

    /** What is told later changes what was: a TABLE is by all that is known. */
    private static void laterChanges() {
        LeapNet x = net(1);
        Check.due(x, "shows", x.shows(0, 2 * DAY), 200_000_000, 0);
        x.notice(0, 0, 1, 1, 500);
        Check.due(x, "shows by the NOTICE", x.shows(0, 2 * DAY), 186_400_000, 0);
        Check.rules(x, "believe:0;", 0);
        Check.due(x, "shows, not BELIEVED", x.shows(0, 2 * DAY), 200_000_000, 0);
        Check.rules(x, "believe:1;", 0);
        Check.due(x, "shows, BELIEVED again", x.shows(0, 2 * DAY), 186_400_000, 0);
        Check.refused(x, "a FAULT changes nothing", Check.rules(x, "believe:0", 0), 10);
        Check.due(x, "shows, still BELIEVED", x.shows(0, 2 * DAY), 186_400_000, 0);
    }
}
