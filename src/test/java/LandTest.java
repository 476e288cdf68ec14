/** Promises 36 to 38: LANDS, and local times that are twice or never. */
public final class LandTest {
    private static final int DAY = 86_400;

    public static void main(String[] args) {
        statuses();
        standard();
        longerDays();
        belowZero();
        summer();
        twiceAndNever();
        summerAtTheYearsEdges();
        Check.end("LandTest");
    }

    private static void statuses() {
        LeapNet x = new LeapNet();
        Check.refused(x, "land(4, ..", x.land(4, 900, 5, 4), 2);
        Check.refused(x, "land(-1, ..", x.land(-1, 0, 0, 0), 2);
        Check.refused(x, "offset -721", x.land(0, -721, 0, 0), 5);
        Check.refused(x, "offset 841", x.land(0, 841, 0, 0), 5);
        Check.refused(x, "from -1", x.land(0, 0, -1, 5), 5);
        Check.refused(x, "to 365", x.land(0, 0, 5, 365), 5);
        Check.refused(x, "from behind to", x.land(0, 0, 6, 5), 5);
        Check.due(x, "as it was", x.local(0, 5 * DAY), 5 * 1_440, 0);
        Check.taken(x, "land(3, -720, 0, 364)", x.land(3, -720, 0, 364));
        Check.taken(x, "land(2, 840, 364, 364)", x.land(2, 840, 364, 364));
        Check.refused(x, "local(4, 0)", x.local(4, -1), 2);
        Check.refused(x, "local(-1, 0)", x.local(-1, 0), 2);
        Check.refused(x, "local(0, -1)", x.local(0, -1), 5);
        Check.refused(x, "local(0, 900000001)", x.local(0, 900_000_001), 5);
        Check.refused(x, "oft(4, 1, 0)", x.oft(4, 0, 0), 2);
        Check.refused(x, "oft(-1, 1, 0)", x.oft(-1, 1, 0), 2);
        Check.refused(x, "oft(0, 0, 0)", x.oft(0, 0, 0), 5);
        Check.refused(x, "oft(0, 9999, 0)", x.oft(0, 9_999, 0), 5);
        Check.refused(x, "oft(0, 1, -1)", x.oft(0, 1, -1), 5);
        Check.refused(x, "oft(0, 1, 1440)", x.oft(0, 1, 1_440), 5);
        Check.due(x, "oft(0, 1, 0)", x.oft(0, 1, 0), 1, 0);
        Check.due(x, "oft(0, 9998, 1439)", x.oft(0, 9_998, 1_439), 1, 0);
    }

    private static void dueLocal(LeapNet x, int land, int count, int minutes) {
        Check.due(x, "local(" + land + ", " + count + ")", x.local(land, count), minutes, 0);
    }

    private static void standard() {
        LeapNet x = new LeapNet();
        dueLocal(x, 0, 0, 0);
        dueLocal(x, 0, 59, 0);
        dueLocal(x, 0, 60, 1);
        dueLocal(x, 0, DAY - 1, 1_439);
        dueLocal(x, 0, DAY, 1_440);
        x.land(1, 840, 0, 0);
        dueLocal(x, 1, DAY + 120, 1_440 + 842);
        dueLocal(x, 0, DAY + 120, 1_442);
        x.land(1, 0, 0, 0);
        dueLocal(x, 1, DAY + 120, 1_442);
        dueLocal(x, 1, 900_000_000, 10_416 * 1_440 + 960);
    }

    private static void longerDays() {
        LeapNet x = new LeapNet();
        x.leap(0, 1);
        dueLocal(x, 0, DAY - 1, 1_439);
        dueLocal(x, 0, DAY, 1_439);
        dueLocal(x, 0, DAY + 1, 1_440);
        x.leap(0, -1);
        dueLocal(x, 0, DAY - 2, 1_439);
        dueLocal(x, 0, DAY - 1, 1_440);
    }

    private static void belowZero() {
        LeapNet x = new LeapNet();
        x.land(0, -1, 0, 0);
        dueLocal(x, 0, 0, -1);
        dueLocal(x, 0, 60, 0);
        x.land(0, -720, 0, 0);
        dueLocal(x, 0, 0, -720);
        // DAY -1 is the DAY of the year 364: SUMMER ends there ahead of minute 120, and minute 720 is behind it
        x.land(0, -720, 100, 364);
        dueLocal(x, 0, 0, -720);
        // DAY -1, minute 720 to 1439, with no SUMMER; DAY 0 of the year with it from minute 60 on
        x.land(0, -720, 0, 1);
        dueLocal(x, 0, 0, -720);
        dueLocal(x, 0, 720 * 60, 0);
        dueLocal(x, 0, 779 * 60, 59);
        dueLocal(x, 0, 780 * 60, 120);
    }

    private static void summer() {
        LeapNet x = new LeapNet();
        x.land(2, 0, 10, 20);
        dueLocal(x, 2, 10 * DAY + 59 * 60 + 59, 10 * 1_440 + 59);
        dueLocal(x, 2, 10 * DAY + 60 * 60, 10 * 1_440 + 120);
        dueLocal(x, 2, 20 * DAY + 119 * 60 + 59, 20 * 1_440 + 179);
        dueLocal(x, 2, 20 * DAY + 120 * 60, 20 * 1_440 + 120);
        dueLocal(x, 2, 15 * DAY, 15 * 1_440 + 60);
        dueLocal(x, 2, 5 * DAY, 5 * 1_440);
        dueLocal(x, 2, (365 + 15) * DAY, (365 + 15) * 1_440 + 60);
        dueLocal(x, 2, (365 + 25) * DAY, (365 + 25) * 1_440);
        dueLocal(x, 2, (27 * 365 + 15) * DAY, (27 * 365 + 15) * 1_440 + 60);
        // by an OFFSET the STANDARD minutes come to SUMMER at other COUNTS
        x.land(2, 90, 10, 20);
        dueLocal(x, 2, 10 * DAY - 31 * 60, 10 * 1_440 + 59);
        dueLocal(x, 2, 10 * DAY - 30 * 60, 10 * 1_440 + 120);
        x.land(2, 0, 10, 10);
        dueLocal(x, 2, 10 * DAY + 90 * 60, 10 * 1_440 + 90);
    }

    private static void dueOft(LeapNet x, int land, int day, int minute, int oft) {
        Check.due(x, "oft(" + land + ", " + day + ", " + minute + ")", x.oft(land, day, minute), oft, 0);
    }

    private static void twiceAndNever() {
        LeapNet x = new LeapNet();
        x.land(1, 300, 10, 20);
        for (int year = 0; year < 28; year += 9) {
            int first = 365 * year + 10;
            dueOft(x, 1, first, 59, 1);
            dueOft(x, 1, first, 60, 0);
            dueOft(x, 1, first, 119, 0);
            dueOft(x, 1, first, 120, 1);
            int last = 365 * year + 20;
            dueOft(x, 1, last, 119, 1);
            dueOft(x, 1, last, 120, 2);
            dueOft(x, 1, last, 179, 2);
            dueOft(x, 1, last, 180, 1);
            dueOft(x, 1, last - 1, 150, 1);
            dueOft(x, 1, first - 1, 90, 1);
            dueOft(x, 1, last + 1, 150, 1);
            dueOft(x, 1, first + 1, 90, 1);
        }
        dueOft(x, 0, 10, 90, 1);
        x.land(1, 300, 20, 20);
        dueOft(x, 1, 20, 90, 1);
        dueOft(x, 1, 20, 150, 1);
    }

    private static void summerAtTheYearsEdges() {
        LeapNet x = new LeapNet();
        x.land(0, 0, 0, 364);
        dueOft(x, 0, 365, 59, 1);
        dueOft(x, 0, 365, 60, 0);
        dueOft(x, 0, 365, 119, 0);
        dueOft(x, 0, 364, 119, 1);
        dueOft(x, 0, 364, 120, 2);
        dueOft(x, 0, 364, 180, 1);
        dueOft(x, 0, 365, 0, 1);
        x.land(0, 0, 0, 1);
        dueOft(x, 0, 1, 0, 1);
        dueOft(x, 0, 1, 120, 2);
        dueOft(x, 0, 1, 59, 1);
    }
}
