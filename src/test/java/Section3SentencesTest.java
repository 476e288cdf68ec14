/** Sentences of section 3: SERVERS, NOTICES, what is BELIEVED, a CLOCK's TABLE, OFF and WORST. */
public final class Section3SentencesTest {
    private static final int DAY = 86_400;
    private static final int LAST_COUNT = 900_000_000;

    public static void main(String[] args) {
        Sentences.run(Section3SentencesTest.class);
    }

    /** Of the NOTICES from 0 on. */
    private static void dueTold(LeapNet x, int what, int... due) {
        for (int i = 0; i < due.length; i++) {
            Check.due(x, "told(" + i + ", " + what + ")", x.told(i, what), due[i], 0);
        }
    }

    private static void dueTable(LeapNet x, int clock, int day, int due) {
        Check.due(x, "table(" + clock + ", " + day + ")", x.table(clock, day), due, 0);
    }

    static void s3_serversAtMost8OfStratum0To15() {
        Sentences.says("SERVERS, at most 8, numbered as they come, of a STRATUM (0 to 15).");
        LeapNet x = new LeapNet();
        Check.range(x, "server", n -> x.server(n), 0, 15, 5);
        LeapNet y = new LeapNet();
        y.clock(0);
        for (int i = 0; i < 8; i++) {
            Check.refused(y, "a NOTICE of SERVER " + i + ", not there yet", y.notice(i, 0, 1, 1, 0), 2);
            Check.due(y, "SERVER " + i, y.server(2 * i), i, 0);
            Check.due(y, "a NOTICE of SERVER " + i, y.notice(i, 0, 1, 1, 0), i, 0);
        }
        Check.refused(y, "a ninth", y.server(0), 7);
        Check.refused(y, "a NOTICE of it", y.notice(8, 0, 1, 1, 0), 2);
        Check.rules(y, "believe:if stratum=2*server then 1 else 0;", 0);
        dueTold(y, 1, 1, 1, 1, 1, 1, 1, 1, 1);
    }

    static void s3_noticesAtMost60() {
        Sentences.says("NOTICES, at most 60, numbered as they come");
        LeapNet x = Nets.ofClocks(2, 0);
        for (int i = 0; i < 60; i++) {
            Check.refused(x, "told(" + i + ", 0), not there yet", x.told(i, 0), 2);
            Check.due(x, "NOTICE " + i, x.notice(0, i % 2, 100 + i, 1, 0), i, 0);
        }
        Check.refused(x, "a 61st", x.notice(0, 0, 1, 1, 0), 7);
        Check.refused(x, "told(60, 0)", x.told(60, 0), 2);
        Check.due(x, "told(59, 0)", x.told(59, 0), 1, 0);
        Check.due(x, "the DAYS of CLOCK 0", x.misses(0), 30, 0);
        Check.due(x, "the DAYS of CLOCK 1", x.misses(1), 30, 0);
        dueTable(x, 1, 159, 1);
        dueTable(x, 0, 1, 0);
    }

    static void s3_sixtyDaysInOneTable() {
        Sentences.says("NOTICES, at most 60, numbered as they come");
        LeapNet x = Nets.ofClocks(1, 0);
        for (int i = 59; i >= 0; i--) {
            x.notice(0, 0, i, i % 2 == 0 ? 1 : -1, 0);
        }
        Check.due(x, "misses(0)", x.misses(0), 60, 0);
        dueTable(x, 0, 0, 1);
        dueTable(x, 0, 59, -1);
        Check.due(x, "shows at the end of the longer DAY 58", x.shows(0, 59 * DAY), 5_886_400_000L, 0);
        Check.due(x, "shows at the end of the shorter DAY 59", x.shows(0, 60 * DAY), 6_000_000_000L, 0);
    }

    static void s3_aCountNotAheadOfThoseToldAhead() {
        Sentences.says("come at a COUNT not ahead of those told ahead");
        LeapNet x = Nets.ofClocks(2, 0);
        Check.due(x, "the first, at any COUNT", x.notice(0, 0, 1, 1, 700), 0, 0);
        Check.refused(x, "one ahead of it", x.notice(0, 0, 1, 1, 699), 12);
        Check.refused(x, "to another CLOCK, too", x.notice(0, 1, 1, 1, 0), 12);
        Check.due(x, "at the same", x.notice(0, 1, 1, 1, 700), 1, 0);
        Check.due(x, "one behind it", x.notice(0, 0, 1, 1, 701), 2, 0);
        Check.refused(x, "that of the one ahead is gone", x.notice(0, 0, 1, 1, 700), 12);
        Check.due(x, "at the last COUNT", x.notice(0, 0, 1, 1, LAST_COUNT), 3, 0);
        Check.refused(x, "ahead of the last COUNT", x.notice(0, 0, 1, 1, LAST_COUNT - 1), 12);
        Check.due(x, "at the last COUNT again", x.notice(0, 0, 1, 1, LAST_COUNT), 4, 0);
    }

    static void s3_inTimeAheadOfTheEndOfItsDay() {
        Sentences.says("A NOTICE comes IN TIME, if its COUNT is ahead of the end of its DAY by the TRUE TABLE.");
        LeapNet x = Nets.ofClocks(1, 0);
        x.notice(0, 0, 1, 1, 2 * DAY - 2);
        x.notice(0, 0, 1, 1, 2 * DAY - 1);
        x.notice(0, 0, 1, 1, 2 * DAY);
        x.notice(0, 0, 1, 1, 2 * DAY + 1);
        dueTold(x, 0, 1, 1, 0, 0);
        x.leap(1, 1);
        dueTold(x, 0, 1, 1, 1, 0);
        x.leap(1, -1);
        dueTold(x, 0, 1, 0, 0, 0);
        x.leap(0, 1);
        dueTold(x, 0, 1, 1, 0, 0);
        // the DAY behind does not count
        x.leap(2, 1);
        dueTold(x, 0, 1, 1, 0, 0);
        LeapNet y = Nets.ofClocks(1, 0);
        y.notice(0, 0, 0, 1, 0);
        y.notice(0, 0, 0, 1, DAY);
        y.notice(0, 0, 9_999, 1, 10_000 * DAY - 1);
        y.notice(0, 0, 9_999, 1, 10_000 * DAY);
        dueTold(y, 0, 1, 0, 1, 0);
    }

    static void s3_believedIfTheDefIsNot0() {
        Sentences.says("if that is not 0 (not, where it is none; it is, without a TEXT or such a DEF)");
        Check.due("without a TEXT", withOneNotice("", 5).told(0, 1), 1);
        Check.due("without such a DEF", withOneNotice("believes:0;a:0;", 0).told(0, 1), 1);
        Check.due("1", withOneNotice("believe:1;", 0).told(0, 1), 1);
        Check.due("-1", withOneNotice("believe:0-1;", 0).told(0, 1), 1);
        Check.due("0", withOneNotice("believe:0;", 0).told(0, 1), 0);
        Check.due("none", withOneNotice("believe:1/0;", 0).told(0, 1), 0);
        Check.due("0, but not in force yet", withOneNotice("believe:0;", 1).told(0, 1), 1);
        Check.due("0 of a DEF behind believe", withOneNotice("believe:1;a:0;", 0).told(0, 1), 1);
    }

    private static LeapNet withOneNotice(String text, int from) {
        LeapNet x = Nets.ofClocks(1, 0);
        Check.rules(x, text, from);
        x.notice(0, 0, 3, 1, 0);
        return x;
    }

    static void s3_believedByTheTextOfTheTrueDay() {
        Sentences.says("It is BELIEVED by the DEF believe of the TEXT in force on the TRUE DAY of its COUNT");
        LeapNet x = Nets.ofClocks(1, 0);
        x.notice(0, 0, 9, 1, 2 * DAY - 1);
        x.notice(0, 0, 9, 1, 2 * DAY);
        x.notice(0, 0, 9, 1, 2 * DAY + 1);
        Check.rules(x, "believe:0;", 2);
        dueTold(x, 1, 1, 0, 0);
        x.leap(1, 1);
        dueTold(x, 1, 1, 1, 0);
        x.leap(1, -1);
        dueTold(x, 1, 0, 0, 0);
        // a NOTICE that the CLOCK believes does not change the TRUE DAY
        x.leap(1, 0);
        dueTold(x, 1, 1, 0, 0);
    }

    /** A NOTICE of which the variable is that number, and neither one more nor one less. */
    private static void dueVariable(LeapNet x, String variable, String number) {
        for (int more = -1; more <= 1; more++) {
            String text = "believe:if " + variable + "=" + number + "+" + (more + 1) + "-1 then 1 else 0;";
            Check.due(x, text, Check.rules(x, text, 0), 1, 0);
            Check.due(x, text + " told", x.told(0, 1), more == 0 ? 1 : 0, 0);
        }
    }

    static void s3_serverAndStratum() {
        Sentences.says("server, stratum; ahead: its DAY less that TRUE DAY; kind (1 or -1)");
        for (int server : new int[] {0, 7}) {
            dueVariable(oneOfMany(server, 0, 1, 0), "server", "" + server);
            dueVariable(oneOfMany(server, 0, 1, 0), "stratum", "" + (15 - server));
        }
        dueVariable(oneOfMany(0, 0, 1, 0), "ahead", "5000");
        dueVariable(oneOfMany(0, 0, 1, 5_000 * DAY), "ahead", "0");
        dueVariable(oneOfMany(0, 0, 1, 5_001 * DAY), "ahead", "0-1");
        dueVariable(oneOfMany(0, 0, 1, LAST_COUNT), "ahead", "0-5416");
        dueVariable(oneOfMany(0, 0, 1, 0), "kind", "1");
        dueVariable(oneOfMany(0, 0, -1, 0), "kind", "0-1");
    }

    static void s3_wayAndNumberOfTheClock() {
        Sentences.says("way and number of the clock");
        for (int clock = 0; clock < 12; clock += 11) {
            dueVariable(oneOfMany(0, clock, 1, 0), "clock", "" + clock);
        }
        for (int clock = 0; clock < 4; clock++) {
            dueVariable(oneOfMany(0, clock, 1, 0), "way", "" + (3 - clock));
        }
    }

    /** SERVERS of STRATUM 15 and down, CLOCKS of WAY 3 and down, and one NOTICE of DAY 5,000. */
    private static LeapNet oneOfMany(int server, int clock, int kind, int count) {
        LeapNet x = new LeapNet();
        for (int i = 0; i < 8; i++) {
            x.server(15 - i);
        }
        for (int i = 0; i < 12; i++) {
            x.clock(3 - i % 4);
        }
        x.notice(server, clock, 5_000, kind, count);
        return x;
    }

    static void s3_alikeAndAgainst() {
        Sentences.says("alike: how many NOTICES told ahead to that CLOCK tell the same of that DAY; "
            + "against: how many tell otherwise of it");
        // of CLOCK 0 and DAY 7: more, more, less, more; the others are of another DAY or CLOCK
        int[][] told = {{0, 0, 7, 1}, {0, 1, 7, 1}, {1, 0, 7, 1}, {0, 0, 8, 1}, {0, 0, 7, -1}, {0, 0, 8, -1}, {1, 0, 7, 1}};
        int[] alike = {0, 0, 1, 0, 0, 0, 2};
        int[] against = {0, 0, 0, 0, 2, 1, 1};
        for (int many = 0; many < 3; many++) {
            LeapNet y = Nets.ofClocks(2, 0);
            y.server(3);
            Check.rules(y, "believe:if alike=" + many + " then 1 else 0;", 0);
            LeapNet z = Nets.ofClocks(2, 0);
            z.server(3);
            Check.rules(z, "believe:if against=" + many + " then 1 else 0;", 0);
            for (int i = 0; i < told.length; i++) {
                y.notice(told[i][0], told[i][1], told[i][2], told[i][3], 0);
                z.notice(told[i][0], told[i][1], told[i][2], told[i][3], 0);
                Check.due("alike of " + i + " is " + many, y.told(i, 1), alike[i] == many ? 1 : 0);
                Check.due("against of " + i + " is " + many, z.told(i, 1), against[i] == many ? 1 : 0);
            }
        }
        // none is BELIEVED, none IN TIME: they count all the same, but those told behind do not
        LeapNet late = Nets.ofClocks(1, 0);
        Check.rules(late, "believe:if alike=1 then 1 else 0;", 0);
        late.notice(0, 0, 2, 1, 4 * DAY);
        late.notice(0, 0, 2, 1, 4 * DAY);
        late.notice(0, 0, 2, 1, 4 * DAY);
        dueTold(late, 1, 0, 1, 0);
    }

    static void s3_dayYearAndMonth() {
        Sentences.says("day (TRUE), year: that by 365, month: that less 365 times year, by 30 (rounded down, 11 at most)");
        int[][] days = {{0, 0, 0}, {29, 0, 0}, {30, 0, 1}, {59, 0, 1}, {60, 0, 2}, {329, 0, 10}, {330, 0, 11}, {359, 0, 11},
            {360, 0, 11}, {364, 0, 11}, {365, 1, 0}, {394, 1, 0}, {395, 1, 1}, {729, 1, 11}, {730, 2, 0}, {9_999, 27, 4}};
        for (int[] day : days) {
            LeapNet x = Nets.ofClocks(1, 0);
            x.notice(0, 0, 5, 1, day[0] * DAY);
            String text = "believe:if day=" + day[0] + " and year=" + day[1] + " and month=" + day[2] + " then 1 else 0;";
            Check.due(x, text, Check.rules(x, text, 0), 1, 0);
            Check.due(x, text + " told", x.told(0, 1), 1, 0);
        }
        LeapNet last = Nets.ofClocks(1, 0);
        last.notice(0, 0, 5, 1, LAST_COUNT);
        Check.rules(last, "believe:if day=10416 and year=28 and month=6 then 1 else 0;", 0);
        dueTold(last, 1, 1);
        LeapNet longer = Nets.ofClocks(1, 0);
        longer.leap(364, 1);
        longer.notice(0, 0, 5, 1, 365 * DAY);
        longer.notice(0, 0, 5, 1, 365 * DAY + 1);
        Check.rules(longer, "believe:year;", 0);
        dueTold(longer, 1, 0, 1);
    }

    static void s3_tableByTheLatestInTimeAndBelieved() {
        Sentences.says("of each DAY as told by the latest NOTICE of it to that CLOCK that came IN TIME and is BELIEVED");
        LeapNet x = Nets.ofClocks(2, 0);
        dueTable(x, 0, 5, 0);
        x.notice(0, 0, 5, 1, 0);
        dueTable(x, 0, 5, 1);
        dueTable(x, 0, 4, 0);
        dueTable(x, 0, 6, 0);
        dueTable(x, 1, 5, 0);
        x.notice(0, 0, 5, -1, 0);
        dueTable(x, 0, 5, -1);
        x.notice(0, 0, 5, 1, 6 * DAY - 1);
        dueTable(x, 0, 5, 1);
        x.notice(0, 0, 5, -1, 6 * DAY);
        dueTable(x, 0, 5, 1);
        Check.rules(x, "believe:0;", 5);
        dueTable(x, 0, 5, -1);
        Check.rules(x, "believe:0;", 0);
        dueTable(x, 0, 5, 0);
    }

    static void s3_falseAndFooled() {
        Sentences.says("FALSE is a NOTICE that tells otherwise than the TRUE TABLE; FOOLED by it is a CLOCK whose TABLE is by it.");
        LeapNet x = Nets.ofClocks(1, 0);
        x.notice(0, 0, 5, 1, 0);
        x.notice(0, 0, 5, -1, 0);
        dueTold(x, 2, 1, 1);
        dueTold(x, 3, 0, 1);
        x.leap(5, 1);
        dueTold(x, 2, 0, 1);
        dueTold(x, 3, 0, 1);
        x.leap(5, -1);
        dueTold(x, 2, 1, 0);
        dueTold(x, 3, 0, 0);
        // a later one that is not BELIEVED, or too late, takes nothing from it
        x.leap(5, 0);
        x.notice(0, 0, 5, 1, 6 * DAY);
        dueTold(x, 3, 0, 1, 0);
        Check.rules(x, "believe:if kind=1 then 1 else 0;", 0);
        dueTold(x, 2, 1, 1, 1);
        dueTold(x, 3, 1, 0, 0);
    }

    static void s3_missesAreDaysNotAlike() {
        Sentences.says("MISSES: DAYS that are not alike in the CLOCK's TABLE and the TRUE one.");
        LeapNet x = Nets.ofClocks(1, 0);
        Check.due(x, "both empty", x.misses(0), 0, 0);
        x.leap(0, 1);
        x.leap(9_999, -1);
        Check.due(x, "only the TRUE one tells", x.misses(0), 2, 0);
        x.notice(0, 0, 0, 1, 0);
        x.notice(0, 0, 9_999, -1, 0);
        Check.due(x, "alike", x.misses(0), 0, 0);
        x.notice(0, 0, 9_999, 1, 0);
        Check.due(x, "told otherwise: one, not two", x.misses(0), 1, 0);
        x.notice(0, 0, 8, 1, 0);
        Check.due(x, "only the CLOCK's tells", x.misses(0), 2, 0);
        x.leap(0, 0);
        Check.due(x, "put back in the TRUE one", x.misses(0), 3, 0);
    }

    static void s3_offCountsADay86400000() {
        Sentences.says("in thousandths (of unlike DAYS a DAY counts 86,400,000 each)");
        LeapNet x = Nets.ofClocks(3, 0);
        x.notice(0, 0, 1, 1, 0);
        x.notice(0, 2, 1, -1, 0);
        long[][] due = {{0, 0, 0}, {0, 0, 1_000}, {0, 0, 1_000}, {-1_000, 0, 1_000}, {-1_000, 0, 1_000}};
        int[] counts = {2 * DAY - 2, 2 * DAY - 1, 2 * DAY, 2 * DAY + 1, 900_000_000};
        for (int i = 0; i < counts.length; i++) {
            for (int clock = 0; clock < 3; clock++) {
                Check.due(x, "off(" + clock + ", 1, " + counts[i] + ")", x.off(clock, 1, counts[i]),
                    due[i][clock], 0);
                Check.due(x, "off(1, " + clock + ", " + counts[i] + ")", x.off(1, clock, counts[i]),
                    -due[i][clock], 0);
            }
        }
    }

    static void s3_worstBetweenACountAndOne2000On() {
        Sentences.says("WORST between a COUNT and one at most 2,000 on: the greatest size of OFF of two CLOCKS; "
            + "WHEN: the first COUNT with it.");
        LeapNet x = Nets.ofClocks(3, 0);
        x.leap(0, -1);
        x.step(1, 2 * DAY + 2_000);
        x.step(2, 2 * DAY + 2_001);
        x.leap(1, -1);
        Check.due(x, "up to 1,999 on", x.worst(2 * DAY, 2 * DAY + 1_999, 0), 0, 0);
        Check.due(x, "WHEN there is none", x.worst(2 * DAY, 2 * DAY + 1_999, 1), 2 * DAY, 0);
        Check.due(x, "2,000 on", x.worst(2 * DAY, 2 * DAY + 2_000, 0), 2_000, 0);
        Check.due(x, "WHEN", x.worst(2 * DAY, 2 * DAY + 2_000, 1), 2 * DAY + 2_000, 0);
        Check.refused(x, "2,001 on", x.worst(2 * DAY, 2 * DAY + 2_001, 0), 5);
        Check.due(x, "one COUNT alone", x.worst(2 * DAY + 2_000, 2 * DAY + 2_000, 0), 2_000, 0);
        Check.due(x, "the first of many", x.worst(2 * DAY + 1_000, 2 * DAY + 3_000, 1), 2 * DAY + 2_000, 0);
        Check.due(x, "the last 2,000", x.worst(LAST_COUNT - 2_000, LAST_COUNT, 1), LAST_COUNT - 2_000, 0);
        // of two CLOCKS, whichever stands ahead
        LeapNet y = Nets.ofClocks(2, 0);
        y.notice(0, 0, 1, -1, 0);
        Check.due(y, "the first is ahead", y.worst(3 * DAY, 3 * DAY, 0), 1_000, 0);
        y.notice(0, 1, 1, -1, 0);
        y.notice(0, 1, 2, -1, 0);
        Check.due(y, "the second is ahead", y.worst(3 * DAY, 3 * DAY, 0), 1_000, 0);
    }
}
