/** Promises 7 to 9: the TRUE TABLE and civil times. */
public final class CivilTest {
    private static final int DAY = 86_400;

    public static void main(String[] args) {
        plainDays();
        longerDays();
        shorterDays();
        neighbours();
        mostDays();
        statuses();
        Check.end("CivilTest");
    }

    private static void dueCivil(LeapNet x, int count, int day, int second) {
        Check.due(x, "civil(" + count + ", 0)", x.civil(count, 0), day, 0);
        Check.due(x, "civil(" + count + ", 1)", x.civil(count, 1), second, 0);
        if (day <= 9_999) {
            Check.due(x, "count(" + day + ", " + second + ")", x.count(day, second), count, 0);
        }
    }

    private static void plainDays() {
        LeapNet x = new LeapNet();
        dueCivil(x, 0, 0, 0);
        dueCivil(x, DAY - 1, 0, DAY - 1);
        dueCivil(x, DAY, 1, 0);
        dueCivil(x, 863_999_999, 9_999, DAY - 1);
        dueCivil(x, 864_000_000, 10_000, 0);
        dueCivil(x, 900_000_000, 10_416, 57_600);
        Check.refused(x, "count(5, 86400)", x.count(5, DAY), 9);
    }

    private static void longerDays() {
        LeapNet x = new LeapNet();
        Check.taken(x, "leap(0, 1)", x.leap(0, 1));
        dueCivil(x, DAY - 1, 0, DAY - 1);
        dueCivil(x, DAY, 0, DAY);
        dueCivil(x, DAY + 1, 1, 0);
        Check.taken(x, "leap(9999, 1)", x.leap(9_999, 1));
        dueCivil(x, 9_999 * DAY + 1, 9_999, 0);
        dueCivil(x, 10_000 * DAY + 1, 9_999, DAY);
        dueCivil(x, 10_000 * DAY + 2, 10_000, 0);
        dueCivil(x, 10_001 * DAY + 1, 10_000, DAY - 1);
        Check.taken(x, "leap(0, 0)", x.leap(0, 0));
        dueCivil(x, DAY, 1, 0);
        dueCivil(x, 10_000 * DAY, 9_999, DAY);
    }

    private static void shorterDays() {
        LeapNet x = new LeapNet();
        Check.taken(x, "leap(2, -1)", x.leap(2, -1));
        dueCivil(x, 3 * DAY - 2, 2, DAY - 2);
        dueCivil(x, 3 * DAY - 1, 3, 0);
        Check.refused(x, "count(2, 86399)", x.count(2, DAY - 1), 9);
        Check.refused(x, "count(2, 86400)", x.count(2, DAY), 9);
        Check.taken(x, "leap(2, 1), in its place", x.leap(2, 1));
        dueCivil(x, 3 * DAY, 2, DAY);
        dueCivil(x, 3 * DAY + 1, 3, 0);
    }

    private static void neighbours() {
        LeapNet x = new LeapNet();
        x.leap(5, 1);
        x.leap(3, 1);
        x.leap(4, -1);
        dueCivil(x, 4 * DAY, 3, DAY);
        dueCivil(x, 4 * DAY + 1, 4, 0);
        dueCivil(x, 5 * DAY - 1, 4, DAY - 2);
        dueCivil(x, 5 * DAY, 5, 0);
        dueCivil(x, 6 * DAY, 5, DAY);
        dueCivil(x, 6 * DAY + 1, 6, 0);
        dueCivil(x, 100 * DAY, 99, DAY - 1);
    }

    private static void mostDays() {
        LeapNet x = new LeapNet();
        for (int i = 0; i < 20; i++) {
            Check.taken(x, "leap " + i, x.leap(9_999 - i, 1));
        }
        Check.due(x, "count at the end", x.count(9_999, DAY), 10_000 * DAY + 19, 0);
        Check.refused(x, "a 21st", x.leap(3, 1), 7);
        Check.refused(x, "a 21st, shorter", x.leap(3, -1), 7);
        Check.refused(x, "5 ahead of 7", x.leap(3, 2), 5);
        Check.taken(x, "neither is no 21st", x.leap(3, 0));
        Check.taken(x, "another kind is no 21st", x.leap(9_990, -1));
        Check.due(x, "count at the end", x.count(9_999, DAY), 10_000 * DAY + 17, 0);
        Check.taken(x, "one is taken out", x.leap(9_990, 0));
        Check.taken(x, "another comes in", x.leap(3, -1));
        Check.refused(x, "again a 21st", x.leap(9_990, 1), 7);
        Check.due(x, "count at the end", x.count(9_999, DAY), 10_000 * DAY + 17, 0);
    }

    private static void statuses() {
        LeapNet x = new LeapNet();
        Check.refused(x, "leap(-1, 1)", x.leap(-1, 1), 5);
        Check.refused(x, "leap(10000, 1)", x.leap(10_000, 1), 5);
        Check.refused(x, "leap(1, -2)", x.leap(1, -2), 5);
        Check.refused(x, "leap(1, 2)", x.leap(1, 2), 5);
        Check.refused(x, "civil(-1, 0)", x.civil(-1, 0), 5);
        Check.refused(x, "civil(900000001, 1)", x.civil(900_000_001, 1), 5);
        Check.refused(x, "civil(0, 2)", x.civil(0, 2), 5);
        Check.refused(x, "civil(0, -1)", x.civil(0, -1), 5);
        Check.refused(x, "count(-1, 0)", x.count(-1, 0), 5);
        Check.refused(x, "count(10000, 0)", x.count(10_000, 0), 5);
        Check.refused(x, "count(0, -1)", x.count(0, -1), 5);
        Check.refused(x, "count(0, 86401)", x.count(0, DAY + 1), 5);
        Check.refused(x, "count(greatest, greatest)", x.count(Integer.MAX_VALUE, Integer.MAX_VALUE), 5);
        dueCivil(x, 2 * DAY, 2, 0);
    }
}
