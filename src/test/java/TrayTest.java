/** Promises 1 to 6: a new object, status, and the TRAYS. */
public final class TrayTest {
    public static void main(String[] args) {
        newObject();
        statusOfLatest();
        tray();
        writeAndRead();
        pour();
        pourStatuses();
        Check.end("TrayTest");
    }

    private static void newObject() {
        LeapNet x = new LeapNet();
        Check.due("status()", x.status(), 0);
        for (int i = 0; i < 4; i++) {
            Check.refused(x, "read(" + i + ", 0) of a new object", x.read(i, 0), 3);
            Check.due(x, "local of a new land", x.local(i, 86_400 * 200 + 3_600), 1440 * 200 + 60, 0);
        }
        Check.due("civil of an empty table", x.civil(86_400 * 500, 0), 500);
        Check.refused(x, "misses(0)", x.misses(0), 2);
        Check.refused(x, "notice", x.notice(0, 0, 1, 1, 0), 2);
        Check.due("the first clock", x.clock(0), 0);
        Check.refused(x, "a notice of no server", x.notice(0, 0, 1, 1, 0), 2);
        Check.due("the first server", x.server(3), 0);
        Check.due("the first notice", x.notice(0, 0, 1, 1, 0), 0);
        Check.due("believed without a text", x.told(0, 1), 1);
        Check.refused(x, "run", x.run(0, 0), 8);
        Check.due("the first stamp", x.stamp(0, 0), 0);
        Check.due("an empty tape", x.feed(0, 0, 0, 0, 0), 20);
    }

    private static void statusOfLatest() {
        LeapNet x = new LeapNet();
        x.civil(-1, 0);
        Check.due("status()", x.status(), 5);
        Check.due("status() again", x.status(), 5);
        x.feed(0, 0, 0, 0, 0);
        Check.due("status() behind feed()", x.status(), 5);
        x.fault(0);
        Check.due("status() behind fault()", x.status(), 5);
        x.wrong();
        Check.due("status() behind wrong()", x.status(), 0);
        x.read(9, 9);
        Check.due("status() behind read()", x.status(), 1);
    }

    private static void tray() {
        LeapNet x = new LeapNet();
        Check.refused(x, "tray(-1, 0, 1)", x.tray(-1, 0, 1), 1);
        Check.refused(x, "tray(4, 0, 1)", x.tray(4, 0, 1), 1);
        Check.refused(x, "tray(0, -1, 1)", x.tray(0, -1, 1), 1);
        Check.refused(x, "tray(0, 4, 41)", x.tray(0, 4, 41), 1);
        Check.refused(x, "tray(0, 0, 41)", x.tray(0, 0, 41), 5);
        Check.refused(x, "tray(0, 0, -1)", x.tray(0, 0, -1), 6);
        Check.refused(x, "tray(0, 0, least)", x.tray(0, 0, Integer.MIN_VALUE), 6);
        Check.refused(x, "read(0, 0), still MISSING", x.read(0, 0), 3);
        Check.taken(x, "tray(3, 3, 40)", x.tray(3, 3, 40));
        Check.due(x, "read(3, 39)", x.read(3, 39), 0, 0);
        Check.refused(x, "read(3, 40)", x.read(3, 40), 4);
        x.write(3, 39, 7);
        Check.refused(x, "tray(3, 3, 41)", x.tray(3, 3, 41), 5);
        Check.due(x, "read(3, 39) as it was", x.read(3, 39), 7, 0);
        Check.taken(x, "tray(3, 0, 40)", x.tray(3, 0, 40));
        Check.due(x, "read(3, 39) of the new row", x.read(3, 39), 0, 0);
        Check.taken(x, "tray(0, 0, 0)", x.tray(0, 0, 0));
        Check.refused(x, "read(0, 0) of an empty row", x.read(0, 0), 4);
    }

    private static void writeAndRead() {
        LeapNet x = new LeapNet();
        long[] written = {0x1234_5678_9abc_def0L, 128, 32_768, 0x8000_0000L, -1, 127, Long.MIN_VALUE};
        long[][] due = {
            {-16, -128, 0, 0, -1, 127, 0},
            {-8_464, 128, -32_768, 0, -1, 127, 0},
            {-1_698_898_192, 128, 32_768, Integer.MIN_VALUE, -1, 127, 0},
            {0x1234_5678_9abc_def0L, 128, 32_768, 0x8000_0000L, -1, 127, Long.MIN_VALUE},
        };
        for (int sort = 0; sort < 4; sort++) {
            x.tray(sort, sort, written.length);
            for (int i = 0; i < written.length; i++) {
                Check.taken(x, "write", x.write(sort, i, written[i]));
                Check.due(x, "sort " + sort + " cuts " + written[i], x.read(sort, i), due[sort][i], 0);
            }
        }
        Check.refused(x, "write(4, 0, 1)", x.write(4, 0, 1), 1);
        Check.refused(x, "write(-1, 0, 1)", x.write(-1, 0, 1), 1);
        Check.refused(x, "write(0, 7, 1)", x.write(0, 7, 1), 4);
        Check.refused(x, "write(0, -1, 1)", x.write(0, -1, 1), 4);
        Check.refused(x, "read(0, -1)", x.read(0, -1), 4);
        Check.refused(x, "read(-1, 0)", x.read(-1, 0), 1);
        LeapNet y = new LeapNet();
        Check.refused(y, "write(1, 99, 1)", y.write(1, 99, 1), 3);
    }

    private static void pour() {
        LeapNet x = new LeapNet();
        Check.fill(x, 0, 2, 1, 2, 3, 4, 5);
        Check.fill(x, 1, 2, 10, 20, 30);
        Check.taken(x, "pour to another", x.pour(0, 3, 1, 1, 2));
        dueRow(x, 1, 10, 4, 5);
        dueRow(x, 0, 1, 2, 3, 4, 5);
        Check.taken(x, "pour up in the same", x.pour(0, 0, 0, 1, 4));
        dueRow(x, 0, 1, 1, 2, 3, 4);
        Check.taken(x, "pour down in the same", x.pour(0, 2, 0, 0, 3));
        dueRow(x, 0, 2, 3, 4, 3, 4);
        Check.taken(x, "pour none", x.pour(0, 1, 1, 2, 0));
        dueRow(x, 1, 10, 4, 5);
    }

    private static void pourStatuses() {
        LeapNet x = new LeapNet();
        Check.fill(x, 0, 2, 1, 2, 3, 4, 5);
        Check.fill(x, 1, 2, 10, 20, 30);
        Check.fill(x, 2, 1, 10, 20, 30);
        Check.refused(x, "pour(4, ..", x.pour(4, 0, 3, 0, 1), 1);
        Check.refused(x, "pour to -1", x.pour(3, 0, -1, 0, 1), 1);
        Check.refused(x, "pour from a MISSING one", x.pour(3, 0, 2, 0, -1), 3);
        Check.refused(x, "pour to a MISSING one", x.pour(0, 0, 3, 0, -1), 3);
        Check.refused(x, "pour to another sort", x.pour(0, 9, 2, 9, -1), 11);
        Check.refused(x, "pour fewer than none", x.pour(0, 9, 1, 9, -1), 6);
        Check.refused(x, "pour from place -1", x.pour(0, -1, 1, 0, 1), 4);
        Check.refused(x, "pour to place -1", x.pour(0, 0, 1, -1, 1), 4);
        Check.refused(x, "pour from place 5", x.pour(0, 5, 1, 0, 1), 4);
        Check.refused(x, "pour to place 3", x.pour(0, 0, 1, 3, 1), 4);
        Check.refused(x, "pour too many from", x.pour(0, 3, 1, 0, 3), 4);
        Check.refused(x, "pour too many to", x.pour(0, 0, 1, 1, 3), 4);
        Check.refused(x, "pour very many", x.pour(0, 1, 1, 1, Integer.MAX_VALUE), 4);
        dueRow(x, 0, 1, 2, 3, 4, 5);
        dueRow(x, 1, 10, 20, 30);
        dueRow(x, 2, 10, 20, 30);
    }

    private static void dueRow(LeapNet x, int tray, long... numbers) {
        for (int i = 0; i < numbers.length; i++) {
            Check.due(x, "read(" + tray + ", " + i + ")", x.read(tray, i), numbers[i], 0);
        }
    }
}
