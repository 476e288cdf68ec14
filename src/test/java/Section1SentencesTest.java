/** Sentences of 'What it is' and of 'Terms' ahead of section 2: TRAYS, COUNTS, TABLES, CLOCKS, STEPS. */
public final class Section1SentencesTest {
    private static final int DAY = 86_400;
    private static final int LAST_COUNT = 900_000_000;
    private static final long SHOWN = 100_000_000L;

    public static void main(String[] args) {
        Sentences.run(Section1SentencesTest.class);
    }

    /** A CLOCK of each WAY, told of DAY 1 of a kind. */
    private static LeapNet fourWays(int kind) {
        LeapNet x = new LeapNet();
        x.server(0);
        for (int way = 0; way < 4; way++) {
            x.clock(way);
            x.notice(0, way, 1, kind, 0);
        }
        return x;
    }

    private static void dueShown(LeapNet x, int count, long... shown) {
        for (int i = 0; i < shown.length; i++) {
            Check.due(x, "shows(" + i + ", " + count + ")", x.shows(i, count), shown[i], 0);
        }
    }

    private static void dueCivil(LeapNet x, int count, int day, int second) {
        Check.due(x, "civil(" + count + ", 0)", x.civil(count, 0), day, 0);
        Check.due(x, "civil(" + count + ", 1)", x.civil(count, 1), second, 0);
    }

    static void s1_the512thCallIsAnswered() {
        Sentences.says("An object is used for at most 512 calls after it has been made");
        LeapNet x = new LeapNet();
        x.clock(0);
        for (int i = 2; i < 512; i++) {
            Check.due("call " + i, x.shows(0, i), 1_000L * i);
        }
        Check.due("call 512", x.count(9_999, DAY - 1), 863_999_999);
        LeapNet y = new LeapNet();
        for (int i = 1; i < 512; i++) {
            Check.due("a refused call " + i, y.civil(-i, 0), LeapNet.NONE);
        }
        Check.due("call 512", y.clock(3), 0);
    }

    static void s1_traysAre0To3MissingAtFirst() {
        Sentences.says("TRAYS, 0 to 3, are MISSING at first");
        LeapNet x = new LeapNet();
        for (int i = 0; i < 4; i++) {
            Check.refused(x, "read(" + i + ", 0)", x.read(i, 0), 3);
            Check.refused(x, "write(" + i + ", 0, 0)", x.write(i, 0, 0), 3);
            Check.refused(x, "pour of " + i, x.pour(i, 0, i, 0, 0), 3);
            Check.refused(x, "answers of " + i, x.answers(i, i, 1), 3);
            Check.refused(x, "find of " + i, x.find(i, i, 1), 3);
        }
        for (int i : new int[] {-1, 4, Integer.MIN_VALUE, Integer.MAX_VALUE}) {
            Check.refused(x, "read(" + i + ", 0)", x.read(i, 0), 1);
            Check.refused(x, "write(" + i + ", 0, 0)", x.write(i, 0, 0), 1);
            Check.refused(x, "tray(" + i + ", 0, 0)", x.tray(i, 0, 0), 1);
            Check.refused(x, "pour of " + i, x.pour(i, 0, 0, 0, 0), 1);
            Check.refused(x, "pour to " + i, x.pour(0, 0, i, 0, 0), 1);
            Check.refused(x, "answers of " + i, x.answers(i, 0, 1), 1);
            Check.refused(x, "answers to " + i, x.answers(0, i, 1), 1);
            Check.refused(x, "find of " + i, x.find(i, 0, 1), 1);
            Check.refused(x, "find shown " + i, x.find(0, i, 1), 1);
        }
        for (int i = 0; i < 4; i++) {
            Check.taken(x, "tray(" + i + ", 0, 1)", x.tray(i, 0, 1));
            Check.due(x, "read(" + i + ", 0)", x.read(i, 0), 0, 0);
        }
    }

    static void s1_numbersAreCutToTheirBits() {
        Sentences.says("rows of numbers of 8 bits (sort 0), 16 (1), 32 (2) or 64 (3), with sign; what is written is cut to these");
        for (int sort = 0; sort < 4; sort++) {
            LeapNet x = new LeapNet();
            x.tray(0, sort, 1);
            int bits = 8 << sort;
            long greatest = Long.MAX_VALUE >> 64 - bits;
            long least = -greatest - 1;
            // in 64 bits a long rounds on by itself
            long[][] writtenAndDue = {{greatest, greatest}, {greatest + 1, least}, {least, least}, {least - 1, greatest},
                {0, 0}, {-1, -1}, {2 * greatest + 1, -1}, {2 * greatest + 2, 0}, {2 * greatest + 3, 1}};
            for (long[] one : writtenAndDue) {
                Check.taken(x, "write of " + one[0], x.write(0, 0, one[0]));
                Check.due(x, one[0] + " in " + bits + " bits", x.read(0, 0), one[1], 0);
            }
        }
    }

    static void s1_countsAre0To900000000() {
        Sentences.says("A COUNT is a number of seconds, 0 to 900,000,000");
        LeapNet x = Nets.ofClocks(2, 0);
        Check.range(x, "civil", n -> x.civil(n, 1), 0, LAST_COUNT, 5);
        Check.range(x, "shows", n -> x.shows(1, n), 0, LAST_COUNT, 5);
        Check.range(x, "ahead", n -> x.ahead(1, n), 0, LAST_COUNT, 5);
        Check.range(x, "off", n -> x.off(0, 1, n), 0, LAST_COUNT, 5);
        Check.range(x, "worst from and to", n -> x.worst(n, n, 0), 0, LAST_COUNT, 5);
        Check.range(x, "local", n -> x.local(3, n), 0, LAST_COUNT, 5);
        Check.range(x, "stamp", n -> x.stamp(0, n), 0, LAST_COUNT, 5);
        Check.range(x, "notice", n -> x.notice(0, 0, 5, 1, n), 0, LAST_COUNT, 5);
        Check.rangeTaken(x, "step", n -> x.step(1, n), 0, LAST_COUNT, 5);
        Check.refused(x, "worst to the one above", x.worst(LAST_COUNT, LAST_COUNT + 1, 0), 5);
        Check.refused(x, "worst from the one below", x.worst(-1, 0, 0), 5);
        dueCivil(x, 0, 0, 0);
        dueCivil(x, LAST_COUNT, 10_416, 57_600);
    }

    static void s1_daysAre0To9999() {
        Sentences.says("A TABLE tells of some DAYS (0 to 9,999)");
        LeapNet x = Nets.ofClocks(1, 0);
        Check.rangeTaken(x, "leap", n -> x.leap(n, 1), 0, 9_999, 5);
        Check.rangeTaken(x, "leap to neither", n -> x.leap(n, 0), 0, 9_999, 5);
        Check.range(x, "count", n -> x.count(n, 0), 0, 9_999, 5);
        Check.range(x, "notice", n -> x.notice(0, 0, n, 1, 0), 0, 9_999, 5);
        Check.range(x, "table", n -> x.table(0, n), 0, 9_999, 5);
        Check.range(x, "rules", n -> x.rules(0, n), 0, 9_999, 5);
        Check.due(x, "table(0, 9999)", x.table(0, 9_999), 1, 0);
        Check.due(x, "table(0, 0)", x.table(0, 0), 1, 0);
    }

    static void s1_aSecondMoreOrOneLess() {
        Sentences.says("that they have a second more (1), or one less (-1); all others have 86,400");
        LeapNet x = new LeapNet();
        x.leap(4, 1);
        x.leap(6, -1);
        int[] lengths = {DAY, DAY, DAY, DAY, DAY + 1, DAY, DAY - 1, DAY};
        for (int day = 0; day < lengths.length; day++) {
            int begins = x.count(day, 0);
            Check.due(x, "the last SECOND of DAY " + day, x.count(day, lengths[day] - 1), begins + lengths[day] - 1, 0);
            if (lengths[day] <= DAY) {
                Check.refused(x, "one SECOND further of DAY " + day, x.count(day, lengths[day]), 9);
            }
        }
        Check.due(x, "the last of all", x.count(9_999, DAY - 1), 10_000 * DAY - 1, 0);
    }

    static void s1_eachDayBeginsWhereTheOneAheadEnds() {
        Sentences.says("DAY 0 begins at COUNT 0, each DAY where the one ahead ends.");
        LeapNet x = new LeapNet();
        int[] kinds = {1, -1, 0, 1, 1, -1, -1, 0, 1};
        for (int day = 0; day < kinds.length; day++) {
            x.leap(day, kinds[day]);
        }
        x.leap(9_999, -1);
        int begins = 0;
        for (int day = 0; day < kinds.length; day++) {
            dueCivil(x, begins, day, 0);
            Check.due(x, "count(" + day + ", 0)", x.count(day, 0), begins, 0);
            begins += DAY + kinds[day];
            dueCivil(x, begins - 1, day, DAY + kinds[day] - 1);
        }
        dueCivil(x, begins, kinds.length, 0);
        int tenThousandth = 10_000 * DAY + 1 - 1;
        dueCivil(x, tenThousandth - 1, 9_999, DAY - 2);
        dueCivil(x, tenThousandth, 10_000, 0);
    }

    static void s1_second86400OnlyOfALongerDay() {
        Sentences.says("its DAY and SECOND there (0 to 86,400: the last one only of a longer DAY)");
        LeapNet x = new LeapNet();
        dueCivil(x, DAY - 1, 0, DAY - 1);
        dueCivil(x, DAY, 1, 0);
        x.leap(0, 1);
        dueCivil(x, DAY - 1, 0, DAY - 1);
        dueCivil(x, DAY, 0, DAY);
        dueCivil(x, DAY + 1, 1, 0);
        dueCivil(x, 2 * DAY, 1, DAY - 1);
        dueCivil(x, 2 * DAY + 1, 2, 0);
        x.leap(0, -1);
        dueCivil(x, DAY - 2, 0, DAY - 2);
        dueCivil(x, DAY - 1, 1, 0);
    }

    static void s1_countIfTheDayHasSuchASecond() {
        Sentences.says("COUNT of a DAY and a SECOND: that one, if the DAY has such a SECOND.");
        LeapNet x = new LeapNet();
        Check.due(x, "count(0, 86399)", x.count(0, DAY - 1), DAY - 1, 0);
        Check.refused(x, "count(0, 86400)", x.count(0, DAY), 9);
        x.leap(0, 1);
        Check.due(x, "count(0, 86400)", x.count(0, DAY), DAY, 0);
        x.leap(0, -1);
        Check.due(x, "count(0, 86398)", x.count(0, DAY - 2), DAY - 2, 0);
        Check.refused(x, "count(0, 86399)", x.count(0, DAY - 1), 9);
        Check.refused(x, "count(0, 86400)", x.count(0, DAY), 9);
    }

    static void s1_trueTableOfAtMost20Days() {
        Sentences.says("The TRUE TABLE is told: at most 20 DAYS.");
        LeapNet x = new LeapNet();
        for (int i = 0; i < 19; i++) {
            Check.taken(x, "leap(" + i + ", -1)", x.leap(i, -1));
        }
        Check.taken(x, "the 20th", x.leap(9_999, 1));
        Check.refused(x, "a 21st", x.leap(19, 1), 7);
        Check.refused(x, "a 21st, shorter", x.leap(9_998, -1), 7);
        Check.due(x, "all 20 count", x.count(9_999, DAY), 10_000 * DAY - 19, 0);
        Check.taken(x, "one of the 20, otherwise", x.leap(18, 1));
        Check.taken(x, "neither, of a DAY that was not told", x.leap(19, 0));
        Check.taken(x, "one of the 20 is put back", x.leap(0, 0));
        Check.taken(x, "so another comes in", x.leap(19, 1));
        Check.refused(x, "again a 21st", x.leap(0, -1), 7);
        Check.due(x, "all 20 count", x.count(9_999, DAY), 10_000 * DAY - 15, 0);
    }

    static void s1_clocksAtMost12NumberedAsTheyCome() {
        Sentences.says("CLOCKS, at most 12, numbered as they come, go a WAY: 0 tells, 1 repeats, 2 stops, 3 smears.");
        LeapNet x = new LeapNet();
        x.server(0);
        for (int i = 0; i < 12; i++) {
            Check.refused(x, "shows(" + i + ", 0), not there yet", x.shows(i, 0), 2);
            Check.due(x, "clock " + i, x.clock(i % 4), i, 0);
            Check.due(x, "shows(" + i + ", 0)", x.shows(i, 0), 0, 0);
            x.notice(0, i, 1, 1, 0);
        }
        Check.refused(x, "a 13th", x.clock(0), 7);
        Check.refused(x, "shows(12, 0)", x.shows(12, 0), 2);
        long[] shown = {86_400_000, 86_399_000, 86_399_999, 86_399_000};
        for (int i = 0; i < 12; i++) {
            Check.due(x, "WAY of " + i, x.shows(i, 2 * DAY), SHOWN + shown[i % 4], 0);
        }
    }

    static void s1_tableEmptyAndAhead0AtFirst() {
        Sentences.says("Each has a TABLE of its own (3), which is empty at first, and is AHEAD by a number of seconds, 0 at first.");
        LeapNet x = Nets.ofClocks(0, 0);
        x.leap(0, 1);
        x.leap(1, -1);
        x.clock(0);
        x.clock(0);
        for (int day : new int[] {0, 1, 2, 9_999}) {
            Check.due(x, "table(0, " + day + ")", x.table(0, day), 0, 0);
        }
        for (int count : new int[] {0, DAY, LAST_COUNT}) {
            Check.due(x, "ahead(0, " + count + ")", x.ahead(0, count), 0, 0);
        }
        dueShown(x, DAY, SHOWN, SHOWN);
        x.notice(0, 1, 0, 1, 0);
        x.step(1, 0);
        Check.due(x, "table of the other", x.table(0, 0), 0, 0);
        dueShown(x, DAY, SHOWN, 86_400_000);
        x.step(1, 3 * DAY);
        Check.due(x, "ahead of the one", x.ahead(1, 3 * DAY), 1, 0);
        Check.due(x, "ahead of the other", x.ahead(0, 3 * DAY), 0, 0);
    }

    static void s1_ownIsTheCountAndHowMuchItIsAhead() {
        Sentences.says("At a COUNT a CLOCK's OWN is the COUNT and by how much it is AHEAD then");
        LeapNet x = Nets.ofClocks(2, 0);
        for (int i = 0; i < 20; i++) {
            x.leap(i, -1);
        }
        x.step(0, LAST_COUNT);
        Check.due(x, "ahead of the last COUNT", x.ahead(0, LAST_COUNT - 1), 0, 0);
        Check.due(x, "at the last COUNT", x.ahead(0, LAST_COUNT), 20, 0);
        Check.due(x, "OWN beyond the last COUNT", x.shows(0, LAST_COUNT), 10_416 * SHOWN + 57_620_000, 0);
        Check.due(x, "without a STEP", x.shows(1, LAST_COUNT), 10_416 * SHOWN + 57_600_000, 0);
    }

    /** A STEP makes OWN the COUNT of a CIVIL time, so it never comes below 0: the least that can be come to is 0. */
    static void s1_of0IfOwnIsBelow0() {
        Sentences.says("(of 0, if OWN is below 0)");
        LeapNet x = Nets.ofClocks(2, 0);
        for (int i = 0; i < 20; i++) {
            x.leap(i, 1);
        }
        x.step(0, 0);
        x.step(0, DAY);
        x.step(0, DAY + 1);
        dueShown(x, 0, 0, 0);
        dueShown(x, 1, 1_000, 1_000);
        dueShown(x, DAY, SHOWN, SHOWN);
        dueShown(x, DAY + 1, SHOWN, SHOWN + 1_000);
    }

    static void s1_shownOfAnOrdinaryOrShorterDay() {
        Sentences.says("in a DAY of 86,400, or one less, 1,000 times the SECOND "
            + "(WAY 3 in one less: 86,400,000 times the SECOND by 86,399, rounded down)");
        LeapNet x = fourWays(-1);
        dueShown(x, 0, 0, 0, 0, 0);
        dueShown(x, DAY - 1, 86_399_000, 86_399_000, 86_399_000, 86_399_000);
        dueShown(x, DAY, SHOWN, SHOWN, SHOWN, SHOWN);
        dueShown(x, DAY + 1, SHOWN + 1_000, SHOWN + 1_000, SHOWN + 1_000, SHOWN + 1_000);
        long second86 = SHOWN + 86_000;
        dueShown(x, DAY + 86, second86, second86, second86, second86);
        long second87 = SHOWN + 87_000;
        dueShown(x, DAY + 87, second87, second87, second87, second87 + 1);
        long last = SHOWN + 86_398_000;
        // 86,398,999.99: rounded down, not to the nearest
        dueShown(x, 2 * DAY - 2, last, last, last, last + 999);
        dueShown(x, 2 * DAY - 1, 2 * SHOWN, 2 * SHOWN, 2 * SHOWN, 2 * SHOWN);
    }

    static void s1_shownOfALongerDay() {
        Sentences.says("In a longer DAY: WAY 0: 1,000 times the SECOND; WAY 1: so, but 86,399,000 in SECOND 86,400; "
            + "WAY 2: so, but 86,399,999 in it; WAY 3: 86,400,000 times the SECOND by 86,401, rounded down.");
        LeapNet x = fourWays(1);
        dueShown(x, DAY, SHOWN, SHOWN, SHOWN, SHOWN);
        // 999.99: rounded down
        dueShown(x, DAY + 1, SHOWN + 1_000, SHOWN + 1_000, SHOWN + 1_000, SHOWN + 999);
        long last = SHOWN + 86_399_000;
        dueShown(x, 2 * DAY - 1, last, last, last, last - 1_000);
        dueShown(x, 2 * DAY, last + 1_000, last, last + 999, last);
        dueShown(x, 2 * DAY + 1, 2 * SHOWN, 2 * SHOWN, 2 * SHOWN, 2 * SHOWN);
        // asked behind the longer DAY, those about it are as they were
        long next = 2 * SHOWN + 86_399_000;
        dueShown(x, 3 * DAY, next, next, next, next);
        dueShown(x, 2 * DAY, last + 1_000, last, last + 999, last);
        dueShown(x, DAY - 1, 86_399_000, 86_399_000, 86_399_000, 86_399_000);
    }

    static void s1_daysAreShownBy100000000() {
        Sentences.says("100,000,000 times the DAY, and thousandths of the DAY");
        LeapNet x = Nets.ofClocks(1, 0);
        dueShown(x, DAY - 1, 86_399_000);
        dueShown(x, DAY, 100_000_000);
        dueShown(x, LAST_COUNT, 1_041_657_600_000L);
    }

    static void s1_stepsAtMost60OfAllClocks() {
        Sentences.says("STEPS, at most 60, told of a CLOCK at a COUNT");
        LeapNet x = Nets.ofClocks(3, 0);
        x.leap(0, 1);
        for (int i = 0; i < 60; i++) {
            Check.taken(x, "STEP " + i, x.step(i % 2, 2 * DAY + i));
        }
        for (int clock = 0; clock < 3; clock++) {
            Check.refused(x, "a 61st, of CLOCK " + clock, x.step(clock, 5 * DAY), 7);
        }
        Check.due(x, "the 59th", x.ahead(0, 2 * DAY + 58), -1, 0);
        Check.due(x, "the CLOCK without one", x.ahead(2, 5 * DAY), 0, 0);
        LeapNet y = Nets.ofClocks(1, 0);
        for (int i = 0; i < 60; i++) {
            Check.taken(y, "STEP " + i + " of one CLOCK", y.step(0, LAST_COUNT - i));
        }
        Check.refused(y, "a 61st of one CLOCK", y.step(0, 0), 7);
    }

    static void s1_stepsInAnyOrder() {
        Sentences.says("in any order; the CLOCK's are done by their COUNTS (of like ones as they were told)");
        int[] counts = {9 * DAY, 3 * DAY, 6 * DAY, 6 * DAY, 0};
        LeapNet x = Nets.ofClocks(1, 0);
        x.leap(2, 1);
        x.leap(5, 1);
        x.leap(8, 1);
        for (int count : counts) {
            x.step(0, count + 10);
        }
        int[] dueAhead = {0, 0, 0, -1, -1, -1, -2, -2, -2, -3, -3};
        for (int day = 0; day < dueAhead.length; day++) {
            Check.due(x, "ahead(0, DAY " + day + ")", x.ahead(0, day * DAY + 10), dueAhead[day], 0);
        }
    }

    static void s1_aStepCountsFromItsCountOn() {
        Sentences.says("from that COUNT on it is AHEAD by as much as makes CIVIL of OWN there the TRUE one of that COUNT");
        LeapNet x = Nets.ofClocks(1, 0);
        x.leap(0, 1);
        x.leap(1, 1);
        x.leap(3, -1);
        x.step(0, 2 * DAY + 100);
        x.step(0, 5 * DAY);
        Check.due(x, "one COUNT ahead of it", x.ahead(0, 2 * DAY + 99), 0, 0);
        Check.due(x, "at it", x.ahead(0, 2 * DAY + 100), -2, 0);
        Check.due(x, "it SHOWS what is TRUE", x.shows(0, 2 * DAY + 100), 2 * SHOWN + 98_000, 0);
        Check.due(x, "up to the next", x.ahead(0, 5 * DAY - 1), -2, 0);
        Check.due(x, "at the next, whatever it was AHEAD", x.ahead(0, 5 * DAY), -1, 0);
        Check.due(x, "and on", x.ahead(0, LAST_COUNT), -1, 0);
    }

    static void s1_aStepToASecondThatTheDayHasNot() {
        Sentences.says("(of a SECOND 86,400 that the DAY has not by its own TABLE: SECOND 0 of the next DAY; "
            + "of a SECOND 86,399 that it has not: likewise)");
        LeapNet x = Nets.ofClocks(3, 0);
        x.leap(1, 1);
        x.notice(0, 1, 1, -1, 0);
        x.notice(0, 2, 1, 1, 0);
        for (int clock = 0; clock < 3; clock++) {
            for (int count = 2 * DAY - 2; count <= 2 * DAY + 1; count++) {
                x.step(clock, count);
            }
        }
        long[][] shown = {
            {SHOWN + 86_398_000, SHOWN + 86_398_000, SHOWN + 86_398_000},
            {SHOWN + 86_399_000, 2 * SHOWN, SHOWN + 86_399_000},
            {2 * SHOWN, 2 * SHOWN, SHOWN + 86_400_000},
            {2 * SHOWN, 2 * SHOWN, 2 * SHOWN},
        };
        int[][] ahead = {{0, 0, 0}, {0, 0, 0}, {0, -1, 0}, {-1, -2, 0}};
        for (int i = 0; i < shown.length; i++) {
            int count = 2 * DAY - 2 + i;
            dueShown(x, count, shown[i]);
            for (int clock = 0; clock < 3; clock++) {
                Check.due(x, "ahead(" + clock + ", " + count + ")", x.ahead(clock, count), ahead[i][clock], 0);
            }
        }
    }
}
