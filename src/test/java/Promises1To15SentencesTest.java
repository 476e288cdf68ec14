/** Sentences of promises 1 to 15: a new object, TRAYS, the TRUE TABLE, CLOCKS; and the order in which they refuse. */
public final class Promises1To15SentencesTest {
    private static final int DAY = 86_400;
    private static final int LAST_COUNT = 900_000_000;
    private static final int LEAST = Integer.MIN_VALUE;
    private static final int GREATEST = Integer.MAX_VALUE;

    public static void main(String[] args) {
        Sentences.allPromises(Promises1To15SentencesTest.class, 1, 15);
        Sentences.run(Promises1To15SentencesTest.class);
    }

    private static void dueRow(LeapNet x, int tray, long... numbers) {
        for (int i = 0; i < numbers.length; i++) {
            Check.due(x, "read(" + tray + ", " + i + ")", x.read(tray, i), numbers[i], 0);
        }
        Check.refused(x, "read(" + tray + ", " + numbers.length + ")", x.read(tray, numbers.length), 4);
    }

    static void p01_aNewObjectHasNothing() {
        Sentences.says("TRAYS are MISSING, the TRUE TABLE is empty, no CLOCKS, SERVERS, TEXTS, PROGRAM, an empty tape; STATUS 0.");
        LeapNet x = new LeapNet();
        Check.due("STATUS", x.status(), 0);
        for (int tray = 0; tray < 4; tray++) {
            Check.refused(x, "TRAY " + tray, x.read(tray, 0), 3);
        }
        Check.due(x, "the TRUE TABLE", x.count(9_999, 0), 9_999 * DAY, 0);
        Check.refused(x, "CLOCK 0", x.shows(0, 0), 2);
        Check.due("the first CLOCK", x.clock(0), 0);
        Check.refused(x, "SERVER 0", x.notice(0, 0, 1, 1, 0), 2);
        Check.due("the first SERVER", x.server(0), 0);
        Check.refused(x, "NOTICE 0", x.told(0, 0), 2);
        Check.refused(x, "a PROGRAM", x.run(0, 0), 8);
        Check.refused(x, "a byte on the tape", x.program(1), 5);
        Check.due("STAMPS", x.wrong(), 0);
        Check.due("no FAULT", x.fault(0), LeapNet.NONE);
        Check.due("no place of one", x.fault(1), LeapNet.NONE);
        x.notice(0, 0, 1, 1, 0);
        Check.due("no TEXT", x.told(0, 1), 1);
        for (int i = 0; i < 4; i++) {
            Check.due(x, "room for TEXT " + i, x.rules(0, 0), 0, 0);
        }
        // nor has it what another object has
        LeapNet y = new LeapNet();
        Check.refused(y, "CLOCK 0 of another", y.shows(0, 0), 2);
    }

    static void p02_theStatusOfTheLatestCall() {
        Sentences.says("The STATUS of the latest call that has one.");
        LeapNet x = new LeapNet();
        x.read(0, 0);
        Check.due("3", x.status(), 3);
        x.read(4, 0);
        Check.due("1", x.status(), 1);
        x.fault(0);
        x.feed(0, 0, 0, 0, 0);
        Check.due("still 1", x.status(), 1);
        x.wrong();
        Check.due("0", x.status(), 0);
        x.count(0, DAY);
        Check.due("9", x.status(), 9);
        Check.due("9, asked again", x.status(), 9);
        Check.due("of another object", new LeapNet().status(), 0);
    }

    static void p03_aRowOfAtMost40() {
        Sentences.says("A TRAY is a row of so many numbers (at most 40; 5), all 0 (1; 5; 6).");
        LeapNet x = new LeapNet();
        Check.taken(x, "none", x.tray(0, 0, 0));
        dueRow(x, 0);
        Check.taken(x, "one", x.tray(0, 1, 1));
        dueRow(x, 0, 0);
        Check.taken(x, "40", x.tray(0, 3, 40));
        Check.due(x, "the last", x.read(0, 39), 0, 0);
        Check.refused(x, "one behind it", x.read(0, 40), 4);
        Check.refused(x, "41", x.tray(0, 3, 41), 5);
        Check.refused(x, "the most", x.tray(0, 3, GREATEST), 5);
        Check.refused(x, "-1", x.tray(0, 3, -1), 6);
        Check.refused(x, "the least", x.tray(0, 3, LEAST), 6);
        Check.rangeTaken(x, "sort", n -> x.tray(1, n, 1), 0, 3, 1);
        Check.rangeTaken(x, "tray", n -> x.tray(n, 1, 1), 0, 3, 1);
        Check.refused(x, "1 ahead of 5", x.tray(4, 0, 41), 1);
        Check.refused(x, "1 ahead of 6", x.tray(0, 4, -1), 1);
    }

    static void p03_madeAnewAllAre0() {
        Sentences.says("A TRAY is a row of so many numbers");
        LeapNet x = new LeapNet();
        Check.fill(x, 0, 3, 1, 2, 3);
        Check.fill(x, 1, 3, 4);
        Check.taken(x, "the same length and sort", x.tray(0, 3, 3));
        dueRow(x, 0, 0, 0, 0);
        Check.taken(x, "shorter", x.tray(0, 3, 1));
        dueRow(x, 0, 0);
        Check.taken(x, "another sort", x.tray(0, 0, 2));
        x.write(0, 0, 128);
        dueRow(x, 0, -128, 0);
        dueRow(x, 1, 4);
    }

    static void p04_aNumberComesToAPlace() {
        Sentences.says("A number comes to a place of a TRAY (1; 3; 4).");
        LeapNet x = new LeapNet();
        x.tray(1, 3, 40);
        Check.rangeTaken(x, "place", n -> x.write(1, n, n + 7), 0, 39, 4);
        Check.due(x, "the first", x.read(1, 0), 7, 0);
        Check.due(x, "the last", x.read(1, 39), 46, 0);
        Check.due(x, "the others", x.read(1, 38), 0, 0);
        Check.refused(x, "1 ahead of 4", x.write(4, 40, 0), 1);
        Check.refused(x, "3 ahead of 4", x.write(0, 40, 0), 3);
        x.tray(0, 3, 0);
        Check.refused(x, "a TRAY of none", x.write(0, 0, 0), 4);
    }

    static void p05_theNumberInAPlace() {
        Sentences.says("The number in a place of a TRAY; STATUS tells NONE from -1 (1; 3; 4).");
        LeapNet x = new LeapNet();
        x.tray(2, 3, 40);
        x.write(2, 0, -1);
        Check.due(x, "-1", x.read(2, 0), -1, 0);
        Check.range(x, "place", n -> x.read(2, n), 0, 39, 4);
        Check.refused(x, "1 ahead of 4", x.read(-1, 40), 1);
        Check.refused(x, "3 ahead of 4", x.read(3, 40), 3);
        x.tray(3, 3, 0);
        Check.refused(x, "a TRAY of none", x.read(3, 0), 4);
    }

    static void p06_poursAsTheyWere() {
        Sentences.says("So many numbers from place i on of a TRAY come to place j on of another one, or the same, as they were");
        LeapNet x = new LeapNet();
        Check.fill(x, 0, 3, 1, 2, 3, 4, 5);
        Check.fill(x, 1, 3, 6, 7, 8);
        Check.taken(x, "all of a TRAY", x.pour(1, 0, 0, 2, 3));
        dueRow(x, 0, 1, 2, 6, 7, 8);
        dueRow(x, 1, 6, 7, 8);
        Check.taken(x, "within one, upwards", x.pour(0, 0, 0, 1, 4));
        dueRow(x, 0, 1, 1, 2, 6, 7);
        Check.taken(x, "within one, downwards", x.pour(0, 1, 0, 0, 4));
        dueRow(x, 0, 1, 2, 6, 7, 7);
        Check.taken(x, "to where it was", x.pour(0, 0, 0, 0, 5));
        dueRow(x, 0, 1, 2, 6, 7, 7);
        Check.taken(x, "none", x.pour(0, 0, 1, 0, 0));
        dueRow(x, 1, 6, 7, 8);
        LeapNet y = new LeapNet();
        y.tray(0, 2, 40);
        y.tray(1, 2, 40);
        y.write(0, 0, 5);
        y.write(0, 39, 6);
        Check.taken(y, "40", y.pour(0, 0, 1, 0, 40));
        Check.due(y, "the first", y.read(1, 0), 5, 0);
        Check.due(y, "the last", y.read(1, 39), 6, 0);
        Check.refused(y, "41", y.pour(0, 0, 1, 0, 41), 4);
        // what is poured is a copy
        y.write(0, 0, 9);
        Check.due(y, "as it was", y.read(1, 0), 5, 0);
    }

    static void p06_refusesInThisOrder() {
        Sentences.says("1, 3 (either), 11, 6, 4, asked in this order.");
        LeapNet x = new LeapNet();
        Check.fill(x, 0, 3, 1, 2, 3);
        Check.fill(x, 1, 3, 4, 5);
        Check.fill(x, 2, 2, 6);
        Check.refused(x, "1 of the first ahead of 3", x.pour(4, 9, 3, 9, -1), 1);
        Check.refused(x, "1 of the second ahead of 3", x.pour(3, 9, 4, 9, -1), 1);
        Check.refused(x, "3 of the first ahead of 6", x.pour(3, 9, 0, 9, -1), 3);
        Check.refused(x, "3 of the second ahead of 6", x.pour(0, 9, 3, 9, -1), 3);
        Check.refused(x, "3 of both", x.pour(3, 0, 3, 0, 0), 3);
        Check.refused(x, "11 ahead of 6", x.pour(0, 9, 2, 9, -1), 11);
        Check.refused(x, "6 ahead of 4", x.pour(0, 9, 1, 9, -1), 6);
        Check.refused(x, "6 ahead of 4 of a place below 0", x.pour(0, -1, 1, -1, LEAST), 6);
        Check.refused(x, "4 of the first", x.pour(0, 3, 1, 0, 1), 4);
        Check.refused(x, "4 of the first, below 0", x.pour(0, -1, 1, 0, 1), 4);
        Check.refused(x, "4 of the second", x.pour(0, 0, 1, 2, 1), 4);
        Check.refused(x, "4 of the second, below 0", x.pour(0, 0, 1, -1, 1), 4);
        Check.refused(x, "4, one too many of the first", x.pour(1, 1, 0, 0, 2), 4);
        Check.refused(x, "4, one too many of the second", x.pour(0, 0, 1, 1, 2), 4);
        Check.refused(x, "4 of far places", x.pour(0, GREATEST, 1, GREATEST, 2), 4);
        Check.refused(x, "4 of very many", x.pour(0, 2, 1, 1, GREATEST), 4);
        dueRow(x, 0, 1, 2, 3);
        dueRow(x, 1, 4, 5);
        dueRow(x, 2, 6);
    }

    static void p07_aSecondMoreLessOrNeither() {
        Sentences.says("A DAY has a second more (1), or less (-1), or neither (0), by the TRUE TABLE (5; 7).");
        LeapNet x = new LeapNet();
        Check.rangeTaken(x, "kind", n -> x.leap(5, n), -1, 1, 5);
        Check.due(x, "more", x.count(5, DAY), 6 * DAY, 0);
        Check.taken(x, "less in its place", x.leap(5, -1));
        Check.due(x, "less", x.count(6, 0), 6 * DAY - 1, 0);
        Check.taken(x, "neither", x.leap(5, 0));
        Check.due(x, "neither", x.count(6, 0), 6 * DAY, 0);
        Check.taken(x, "neither again", x.leap(5, 0));
        for (int i = 0; i < 20; i++) {
            Check.taken(x, "DAY " + i, x.leap(2 * i, 1));
        }
        Check.refused(x, "7", x.leap(1, 1), 7);
        Check.refused(x, "5 of the kind ahead of 7", x.leap(1, 2), 5);
        Check.refused(x, "5 of the DAY ahead of 7", x.leap(10_000, 1), 5);
        Check.taken(x, "told again", x.leap(0, 1));
        Check.due(x, "all 20", x.count(9_999, 0), 9_999 * DAY + 20, 0);
    }

    static void p08_civilByTheTrueTable() {
        Sentences.says("CIVIL of a COUNT by the TRUE TABLE, what 0: the DAY, 1: the SECOND (5).");
        LeapNet x = new LeapNet();
        x.leap(0, 1);
        Check.range(x, "what", n -> x.civil(DAY, n), 0, 1, 5);
        Check.range(x, "COUNT", n -> x.civil(n, 1), 0, LAST_COUNT, 5);
        Check.due(x, "the DAY", x.civil(DAY, 0), 0, 0);
        Check.due(x, "the SECOND", x.civil(DAY, 1), DAY, 0);
        Check.due(x, "the last DAY", x.civil(LAST_COUNT, 0), 10_416, 0);
        Check.due(x, "its SECOND", x.civil(LAST_COUNT, 1), 57_599, 0);
    }

    /** No DAY up to 9,999 goes beyond COUNT 900,000,000: the last has 864,000,020 at most. */
    static void p09_countRefuses5And9() {
        Sentences.says("COUNT of a DAY and a SECOND (5: also beyond 900,000,000; 9: the DAY has not that SECOND).");
        LeapNet x = new LeapNet();
        Check.range(x, "DAY", n -> x.count(n, 0), 0, 9_999, 5);
        Check.refused(x, "5 of the DAY ahead of 9", x.count(10_000, DAY), 5);
        Check.refused(x, "9", x.count(0, DAY), 9);
        x.leap(0, 1);
        Check.range(x, "SECOND", n -> x.count(0, n), 0, DAY, 5);
        x.leap(0, -1);
        Check.refused(x, "9 of the one ahead", x.count(0, DAY - 1), 9);
        Check.due(x, "the last it has", x.count(0, DAY - 2), DAY - 2, 0);
        x.leap(0, 0);
        for (int i = 0; i < 20; i++) {
            x.leap(9_999 - i, 1);
        }
        Check.due(x, "the last of all", x.count(9_999, DAY), 10_000 * DAY + 19, 0);
    }

    static void p10_aClockMore() {
        Sentences.says("A CLOCK more: its number (5: a WAY 0 to 3; 7).");
        LeapNet x = new LeapNet();
        Check.range(x, "WAY", n -> x.clock(n), 0, 3, 5);
        for (int i = 2; i < 12; i++) {
            Check.due(x, "CLOCK " + i, x.clock(0), i, 0);
        }
        Check.refused(x, "7", x.clock(0), 7);
        Check.refused(x, "5 ahead of 7", x.clock(4), 5);
        Check.refused(x, "5 ahead of 7, below 0", x.clock(-1), 5);
    }

    static void p11_aStep() {
        Sentences.says("A STEP (2; 5; 7).");
        LeapNet x = Nets.ofClocks(2, 0);
        Check.rangeTaken(x, "CLOCK", n -> x.step(n, 0), 0, 1, 2);
        Check.rangeTaken(x, "COUNT", n -> x.step(0, n), 0, LAST_COUNT, 5);
        Check.refused(x, "2 ahead of 5", x.step(2, -1), 2);
        for (int i = 4; i < 60; i++) {
            Check.taken(x, "STEP " + i, x.step(1, i));
        }
        Check.refused(x, "7", x.step(0, 0), 7);
        Check.refused(x, "5 ahead of 7", x.step(0, -1), 5);
        Check.refused(x, "2 ahead of 7", x.step(2, 0), 2);
    }

    static void p12_whatAClockShows() {
        Sentences.says("What a CLOCK SHOWS (2; 5).");
        LeapNet x = new LeapNet();
        Check.refused(x, "no CLOCK", x.shows(0, 0), 2);
        x.clock(0);
        x.clock(0);
        Check.range(x, "CLOCK", n -> x.shows(n, 5), 0, 1, 2);
        Check.range(x, "COUNT", n -> x.shows(1, n), 0, LAST_COUNT, 5);
        Check.refused(x, "2 ahead of 5", x.shows(2, -1), 2);
        Check.due(x, "the first", x.shows(0, 0), 0, 0);
        Check.due(x, "the last", x.shows(0, LAST_COUNT), 1_041_657_600_000L, 0);
    }

    static void p13_byHowMuchItIsAhead() {
        Sentences.says("By how much a CLOCK is AHEAD at a COUNT; STATUS tells NONE from -1 (2; 5).");
        LeapNet x = Nets.ofClocks(2, 0);
        x.leap(0, 1);
        x.step(0, 2 * DAY);
        Check.due(x, "-1", x.ahead(0, 2 * DAY), -1, 0);
        Check.due(x, "the other", x.ahead(1, 2 * DAY), 0, 0);
        Check.range(x, "CLOCK", n -> x.ahead(n, 2 * DAY), 0, 1, 2);
        Check.range(x, "COUNT", n -> x.ahead(0, n), 0, LAST_COUNT, 5);
        Check.refused(x, "2 ahead of 5", x.ahead(2, -1), 2);
        // the most that can be: 20 by the TRUE TABLE, 60 by its own
        LeapNet y = Nets.ofClocks(1, 0);
        for (int i = 0; i < 60; i++) {
            y.notice(0, 0, i, 1, 0);
        }
        for (int i = 0; i < 20; i++) {
            y.leap(100 + i, -1);
        }
        y.step(0, LAST_COUNT);
        Check.due(y, "80", y.ahead(0, LAST_COUNT), 80, 0);
        Check.due(y, "SHOWS what is TRUE", y.shows(0, LAST_COUNT), 1_041_657_620_000L, 0);
    }

    static void p14_offAgainstClockR() {
        Sentences.says("OFF of a CLOCK against CLOCK r; STATUS tells NONE from -1 (2; 5).");
        LeapNet x = Nets.ofClocks(1, 0);
        x.clock(2);
        x.notice(0, 0, 0, 1, 0);
        x.notice(0, 1, 0, 1, 0);
        Check.due(x, "-1", x.off(1, 0, DAY), -1, 0);
        Check.due(x, "1", x.off(0, 1, DAY), 1, 0);
        Check.due(x, "itself", x.off(1, 1, DAY), 0, 0);
        Check.range(x, "CLOCK", n -> x.off(n, 0, 5), 0, 1, 2);
        Check.range(x, "r", n -> x.off(0, n, 5), 0, 1, 2);
        Check.range(x, "COUNT", n -> x.off(0, 1, n), 0, LAST_COUNT, 5);
        Check.refused(x, "2 of the CLOCK ahead of 5", x.off(2, 0, -1), 2);
        Check.refused(x, "2 of r ahead of 5", x.off(0, 2, -1), 2);
    }

    static void p15_worstAndWhen() {
        Sentences.says("Of all CLOCKS, what 0: WORST, 1: WHEN (5: also from behind to, or more than 2,000 ahead of it; "
            + "8: fewer than two CLOCKS).");
        LeapNet x = Nets.ofClocks(0, 0);
        Check.refused(x, "no CLOCK", x.worst(0, 0, 0), 8);
        x.clock(0);
        Check.refused(x, "one CLOCK", x.worst(0, 0, 0), 8);
        Check.refused(x, "5 of the COUNTS ahead of 8", x.worst(1, 0, 0), 5);
        Check.refused(x, "5 of what ahead of 8", x.worst(0, 0, 2), 5);
        x.clock(0);
        Check.due(x, "two CLOCKS", x.worst(0, 0, 0), 0, 0);
        Check.range(x, "what", n -> x.worst(5, 6, n), 0, 1, 5);
        Check.range(x, "to", n -> x.worst(5, n, 0), 5, 2_005, 5);
        Check.range(x, "from", n -> x.worst(n, 5_000, 0), 3_000, 5_000, 5);
        Check.range(x, "to, at the end", n -> x.worst(LAST_COUNT - 9, n, 0), LAST_COUNT - 9, LAST_COUNT, 5);
        Check.range(x, "from, at the beginning", n -> x.worst(n, 9, 0), 0, 9, 5);
        Check.refused(x, "as far as can be", x.worst(LEAST, GREATEST, 0), 5);
        Check.refused(x, "the other way", x.worst(GREATEST, LEAST, 0), 5);
        // of all: the twelfth, too
        LeapNet y = Nets.ofClocks(12, 0);
        y.notice(0, 11, 0, 1, 0);
        Check.due(y, "WORST", y.worst(DAY - 5, DAY + 5, 0), 1_000, 0);
        Check.due(y, "WHEN", y.worst(DAY - 5, DAY + 5, 1), DAY + 1, 0);
    }
}
