/** Sentences of section 6: ANSWERS of which some lie, FIND, and LANDS. */
public final class Section6SentencesTest {
    private static final int DAY = 86_400;
    private static final int MILLION = 1_000_000;

    public static void main(String[] args) {
        Sentences.run(Section6SentencesTest.class);
    }

    /** ANSWERS as pairs of a least and a greatest. */
    private static LeapNet answers(int liars, long... pairs) {
        LeapNet x = paired(pairs);
        Check.due(x, "answers", x.answers(0, 1, pairs.length / 2), liars, 0);
        return x;
    }

    private static LeapNet seen(int set, long... pairs) {
        LeapNet x = paired(pairs);
        Check.due(x, "find", x.find(0, 1, pairs.length / 2), set, 0);
        return x;
    }

    /** The first of each pair in TRAY 0, the second in TRAY 1. */
    private static LeapNet paired(long... pairs) {
        LeapNet x = new LeapNet();
        int many = pairs.length / 2;
        long[] firsts = new long[many];
        long[] seconds = new long[many];
        for (int i = 0; i < many; i++) {
            firsts[i] = pairs[2 * i];
            seconds[i] = pairs[2 * i + 1];
        }
        Check.fill(x, 0, 3, firsts);
        Check.fill(x, 1, 3, seconds);
        return x;
    }

    private static void dueSpan(LeapNet x, int least, int greatest) {
        Check.due(x, "span(0)", x.span(0), least, 0);
        Check.due(x, "span(1)", x.span(1), greatest, 0);
    }

    private static void dueLies(LeapNet x, int... lies) {
        for (int k = 0; k < lies.length; k++) {
            Check.due(x, "lies(" + k + ")", x.lies(k), lies[k], 0);
        }
        Check.refused(x, "lies(" + lies.length + ")", x.lies(lies.length), 8);
        Check.refused(x, "lies(-1)", x.lies(-1), 8);
    }

    static void s6_answersAre1To12() {
        Sentences.says("ANSWERS, 1 to 12, in two TRAYS");
        LeapNet x = new LeapNet();
        x.tray(0, 0, 40);
        x.tray(1, 1, 40);
        Check.range(x, "answers", n -> x.answers(0, 1, n), 1, 12, 5);
        Check.due(x, "twelve", x.answers(0, 1, 12), 0, 0);
        dueLies(x, 0, 0, 0, 0, 0, 0, 0, 0, 0, 0, 0, 0);
        x.write(1, 12, -1);
        Check.due(x, "the 13th is not asked", x.answers(0, 1, 12), 0, 0);
        x.write(1, 11, -1);
        Check.refused(x, "the 12th is", x.answers(0, 1, 12), 5);
        Check.due(x, "one", x.answers(0, 1, 1), 0, 0);
        dueLies(x, 0);
        Check.due(x, "both in one TRAY", x.answers(1, 1, 12), 1, 0);
    }

    static void s6_fromMinusAMillionToAMillion() {
        Sentences.says("from a least to a greatest (-1,000,000 to 1,000,000 thousandths)");
        dueSpan(answers(0, -MILLION, MILLION), -MILLION, MILLION);
        dueSpan(answers(0, -MILLION, -MILLION), -MILLION, -MILLION);
        dueSpan(answers(0, MILLION, MILLION), MILLION, MILLION);
        long[][] cannotBe = {{-MILLION - 1, 0}, {-MILLION - 1, -MILLION - 1}, {0, MILLION + 1}, {MILLION + 1, MILLION + 1},
            {Long.MIN_VALUE, 0}, {0, Long.MAX_VALUE}, {Long.MIN_VALUE, Long.MAX_VALUE}, {1L << 32, (1L << 32) + 5}, {1, 0},
            {MILLION, -MILLION}, {MILLION, MILLION - 1}};
        for (long[] one : cannotBe) {
            LeapNet x = paired(one);
            Check.refused(x, "from " + one[0] + " to " + one[1], x.answers(0, 1, 1), 5);
            LeapNet y = paired(0, 0, one[0], one[1], 0, 0);
            Check.refused(y, "the second from " + one[0] + " to " + one[1], y.answers(0, 1, 3), 5);
        }
    }

    static void s6_liarsTheFewestSoThatAllOthersAgree() {
        Sentences.says("LIARS: the fewest so that all others have a number in common");
        answers(0, 5, 5);
        answers(0, 0, 10, 10, 20);
        answers(1, 0, 10, 11, 20);
        answers(0, 0, 10, 5, 7, 7, 20);
        // the second agrees with each of the others, but these do not with one another
        answers(1, 0, 10, 5, 15, 11, 20);
        answers(2, 0, 1, 2, 3, 4, 5);
        answers(3, 0, 1, 0, 1, 5, 6, 7, 8, 9, 10);
        answers(11, 0, 0, 1, 1, 2, 2, 3, 3, 4, 4, 5, 5, 6, 6, 7, 7, 8, 8, 9, 9, 10, 10, 11, 11);
        answers(0, 0, 11, 1, 11, 2, 11, 3, 11, 4, 11, 5, 11, 6, 11, 7, 11, 8, 11, 9, 11, 10, 11, 11, 11);
        answers(6, 0, 5, 0, 5, 0, 5, 0, 5, 0, 5, 0, 5, 6, 9, 6, 9, 6, 9, 6, 9, 6, 9, 6, 9);
    }

    static void s6_spanOfAllThatAsManyHaveInCommon() {
        Sentences.says("SPAN: the least and the greatest number that as many have in common");
        dueSpan(answers(0, -3, 7), -3, 7);
        dueSpan(answers(0, 0, 10, 10, 20), 10, 10);
        dueSpan(answers(0, 0, 10, 3, 20, -5, 8), 3, 8);
        dueSpan(answers(1, 0, 10, 5, 15, 11, 20), 5, 15);
        dueSpan(answers(1, 0, 10, 11, 20), 0, 20);
        dueSpan(answers(2, 0, 4, 2, 6, 50, 60, 55, 70), 2, 60);
        dueSpan(answers(1, -1, -1, -1, 5, 9, 9), -1, -1);
    }

    static void s6_liesSurelyWhatHasNoneOfThese() {
        Sentences.says("LIES, surely: an ANSWER that has none of these numbers.");
        dueLies(answers(0, 5, 5), 0);
        dueLies(answers(1, 0, 10, 5, 15, 16, 20), 0, 0, 1);
        // that which touches the last of these numbers has one of them, that which begins behind it has none
        dueLies(answers(1, 0, 10, 5, 10, 10, 20, 11, 20), 0, 0, 0, 1);
        dueLies(answers(2, 0, 4, 0, 4, 5, 9, 5, 9), 0, 0, 0, 0);
        dueLies(answers(1, 0, 10, 11, 20), 0, 0);
        // between the two that as many have in common there is none of them
        dueLies(answers(3, 0, 4, 2, 6, 50, 60, 55, 70, 20, 30), 0, 0, 0, 0, 1);
    }

    static void s6_seenAre1To20() {
        Sentences.says("SEEN are, 1 to 20, in two TRAYS");
        LeapNet x = new LeapNet();
        x.tray(2, 2, 40);
        x.tray(3, 3, 40);
        Check.range(x, "find", n -> x.find(2, 3, n), 1, 20, 5);
        x.write(3, 20, -1);
        x.write(2, 20, -1);
        Check.due(x, "the 21st is not asked", x.find(2, 3, 20), 31, 0);
        x.write(3, 19, 1);
        Check.due(x, "the 20th is", x.find(2, 3, 20), 0, 0);
        Check.due(x, "one", x.find(2, 3, 1), 31, 0);
        Check.due(x, "both in one TRAY", x.find(2, 2, 20), 31, 0);
    }

    static void s6_secondsTo86400AndThousandthsTo86400000() {
        Sentences.says("SECONDS of it (0 to 86,400) and thousandths shown there (0 to 86,400,000)");
        seen(31, 0, 0);
        seen(0, 0, 86_400_000);
        seen(16, 86_400, 0);
        seen(1, 86_400, 86_400_000);
        long[][] cannotBe = {{-1, 0}, {86_401, 0}, {0, -1}, {0, 86_400_001}, {Long.MIN_VALUE, 0}, {1L << 32, 0},
            {0, Long.MAX_VALUE}, {0, 1L << 32}};
        for (long[] one : cannotBe) {
            LeapNet x = paired(one);
            Check.refused(x, "SECOND " + one[0] + " shown " + one[1], x.find(0, 1, 1), 5);
            LeapNet y = paired(0, 0, one[0], one[1], 0, 0);
            Check.refused(y, "the second, " + one[0] + " shown " + one[1], y.find(0, 1, 3), 5);
        }
    }

    static void s6_theWaysThatShowAllOfThem() {
        Sentences.says("the WAYS by which a CLOCK whose TABLE has that DAY so shows all of them: a set (1 for WAY 0, 2 for 1 ..; "
            + "4 goes on: 1,000 times the SECOND, 0 in SECOND 86,400)");
        seen(31, 0, 0);
        seen(0, 0, 1);
        seen(23, 1, 1_000);
        seen(8, 1, 999);
        seen(0, 1, 998);
        seen(23, 86_399, 86_399_000);
        seen(8, 86_399, 86_398_000);
        seen(1, 86_400, 86_400_000);
        seen(10, 86_400, 86_399_000);
        seen(4, 86_400, 86_399_999);
        seen(16, 86_400, 0);
        seen(2, 86_400, 86_399_000, 1, 1_000);
        seen(8, 86_400, 86_399_000, 1, 999);
        seen(16, 0, 0, 86_399, 86_399_000, 86_400, 0);
        seen(0, 86_400, 86_399_999, 86_400, 86_399_000);
    }

    static void s6_askTheLeastSecondAtWhichMostAreUnlike() {
        Sentences.says("ASK: the least SECOND at which most of these show unlike numbers.");
        Check.due("all five", seen(31, 0, 0).ask(), 86_400);
        Check.due("all but that which smears", seen(23, 5, 5_000).ask(), 86_400);
        // in SECOND 86,400 both show 86,399,000; in SECOND 0 both show 0
        Check.due("1 and 3", seen(10, 86_400, 86_399_000).ask(), 1);
        for (LeapNet one : new LeapNet[] {seen(1, 86_400, 86_400_000), seen(8, 1, 999), seen(16, 86_400, 0), seen(0, 0, 1)}) {
            Check.refused(one, "one, or none", one.ask(), 8);
        }
    }

    static void s6_lands0To3() {
        Sentences.says("LANDS, 0 to 3");
        LeapNet x = new LeapNet();
        Check.rangeTaken(x, "land", n -> x.land(n, 1, 0, 1), 0, 3, 2);
        Check.range(x, "local", n -> x.local(n, 0), 0, 3, 2);
        Check.range(x, "oft", n -> x.oft(n, 1, 0), 0, 3, 2);
        for (int land = 0; land < 4; land++) {
            Check.taken(x, "land " + land, x.land(land, 10 * land, 0, 0));
        }
        for (int land = 0; land < 4; land++) {
            dueLocal(x, land, 0, 10 * land);
        }
    }

    private static void dueLocal(LeapNet x, int land, int count, int minutes) {
        Check.due(x, "local(" + land + ", " + count + ")", x.local(land, count), minutes, 0);
    }

    private static void dueOft(LeapNet x, int day, int minute, int oft) {
        Check.due(x, "oft(0, " + day + ", " + minute + ")", x.oft(0, day, minute), oft, 0);
    }

    static void s6_offsetOfMinus720To840() {
        Sentences.says("an OFFSET in minutes (-720 to 840; 0 at first)");
        LeapNet x = new LeapNet();
        dueLocal(x, 2, DAY, 1_440);
        Check.rangeTaken(x, "offset", n -> x.land(2, n, 0, 0), -720, 840, 5);
        dueLocal(x, 2, DAY, 2_280);
        x.land(2, -720, 0, 0);
        dueLocal(x, 2, DAY, 720);
        x.land(2, 0, 0, 0);
        dueLocal(x, 2, DAY, 1_440);
    }

    static void s6_summerFromADayOfTheYearToALaterOne() {
        Sentences.says("SUMMER from a DAY of the year to a later one (0 to 364; none, if both are like: at first)");
        LeapNet x = new LeapNet();
        for (int day : new int[] {0, 1, 180, 364}) {
            dueLocal(x, 0, day * DAY + 5_400, day * 1_440 + 90);
        }
        Check.rangeTaken(x, "from", n -> x.land(0, 0, n, 364), 0, 364, 5);
        Check.rangeTaken(x, "to", n -> x.land(0, 0, 0, n), 0, 364, 5);
        dueLocal(x, 0, 364 * DAY, 364 * 1_440 + 60);
        Check.refused(x, "from behind to", x.land(0, 0, 101, 100), 5);
        dueLocal(x, 0, 100 * DAY, 100 * 1_440 + 60);
        for (int like : new int[] {0, 100, 364}) {
            Check.taken(x, "both are " + like, x.land(0, 0, like, like));
            dueLocal(x, 0, like * DAY + 5_400, like * 1_440 + 90);
            dueOft(x, 365 + like, 90, 1);
            dueOft(x, 365 + like, 150, 1);
        }
        Check.taken(x, "one DAY on", x.land(0, 0, 100, 101));
        dueLocal(x, 0, 100 * DAY + 5_400, 100 * 1_440 + 150);
    }

    static void s6_standardMinutes() {
        Sentences.says("1,440 times the TRUE DAY, and the SECOND by 60 (1,439 at most), and the OFFSET");
        LeapNet x = new LeapNet();
        x.leap(1, 1);
        x.leap(2, -1);
        dueLocal(x, 0, 59, 0);
        dueLocal(x, 0, 60, 1);
        dueLocal(x, 0, DAY - 1, 1_439);
        dueLocal(x, 0, DAY, 1_440);
        dueLocal(x, 0, 2 * DAY - 1, 2_879);
        // the second more would be minute 1,440
        dueLocal(x, 0, 2 * DAY, 2_879);
        dueLocal(x, 0, 2 * DAY + 1, 2_880);
        dueLocal(x, 0, 3 * DAY - 1, 4_319);
        dueLocal(x, 0, 3 * DAY, 4_320);
        x.land(0, 1, 0, 0);
        dueLocal(x, 0, 2 * DAY, 2_880);
        dueLocal(x, 0, 2 * DAY + 1, 2_881);
        dueLocal(x, 0, 900_000_000, 10_416 * 1_440 + 961);
    }

    static void s6_roundedDownTowardsMinusInfinity() {
        Sentences.says("their DAY is them by 1,440 (rounded down, towards minus infinity), the DAY of the year what that leaves by 365 "
            + "(0 to 364), their minute what they leave by 1,440.");
        LeapNet x = new LeapNet();
        x.land(0, -1, 0, 364);
        // DAY -1 is the DAY 364 of its year, and minute 1,439 there is behind SUMMER
        dueLocal(x, 0, 0, -1);
        Check.due(x, "STATUS tells -1 from NONE", x.local(0, 59), -1, 0);
        dueLocal(x, 0, 60, 0);
        // minute 59 of DAY 0 is not yet SUMMER, 60 is
        dueLocal(x, 0, 60 * 60, 59);
        dueLocal(x, 0, 61 * 60, 120);
        x.land(0, -720, 363, 364);
        dueLocal(x, 0, 0, -720);
        x.land(0, -720, 0, 363);
        dueLocal(x, 0, 0, -720);
        // the year's last DAY and its first
        x.land(1, 0, 0, 1);
        dueLocal(x, 1, 364 * DAY + 7_000, 364 * 1_440 + 116);
        dueLocal(x, 1, 365 * DAY + 3_599, 365 * 1_440 + 59);
        dueLocal(x, 1, 365 * DAY + 3_600, 365 * 1_440 + 120);
        dueLocal(x, 1, 730 * DAY + 3_600, 730 * 1_440 + 120);
    }

    static void s6_summerFromMinute60ToAheadOfMinute120() {
        Sentences.says("It is SUMMER from minute 60 of the first DAY of the year on to ahead of minute 120 of the last one; "
            + "then local minutes are 60 more than STANDARD, else as many.");
        LeapNet x = new LeapNet();
        x.land(0, 0, 100, 200);
        for (int year : new int[] {0, 1, 27}) {
            int first = 365 * year + 100;
            int last = 365 * year + 200;
            dueLocal(x, 0, first * DAY + 59 * 60 + 59, first * 1_440 + 59);
            dueLocal(x, 0, first * DAY + 60 * 60, first * 1_440 + 120);
            dueLocal(x, 0, last * DAY + 119 * 60 + 59, last * 1_440 + 179);
            dueLocal(x, 0, last * DAY + 120 * 60, last * 1_440 + 120);
            dueLocal(x, 0, (first - 1) * DAY + 60 * 60, (first - 1) * 1_440 + 60);
            dueLocal(x, 0, (last + 1) * DAY, (last + 1) * 1_440);
        }
        // by STANDARD minutes, not by the COUNT's
        x.land(0, 840, 100, 200);
        dueLocal(x, 0, 100 * DAY - 781 * 60, 100 * 1_440 + 59);
        dueLocal(x, 0, 100 * DAY - 780 * 60, 100 * 1_440 + 120);
        x.land(0, -720, 100, 200);
        dueLocal(x, 0, 200 * DAY + 839 * 60, 200 * 1_440 + 179);
        dueLocal(x, 0, 200 * DAY + 840 * 60, 200 * 1_440 + 120);
    }

    static void s6_howOftALocalMinuteComesAbout() {
        Sentences.says("HOW OFT is a local DAY and minute: with how many STANDARD minutes it comes about (0, 1, 2).");
        LeapNet x = new LeapNet();
        for (int offset : new int[] {0, -720, 840}) {
            x.land(0, offset, 100, 200);
            for (int year : new int[] {0, 26}) {
                int first = 365 * year + 100;
                int last = 365 * year + 200;
                int[][] due = {{first, 59, 1}, {first, 60, 0}, {first, 119, 0}, {first, 120, 1}, {last, 119, 1},
                    {last, 120, 2}, {last, 179, 2}, {last, 180, 1}, {first - 1, 1_439, 1}, {last + 1, 0, 1}};
                for (int[] one : due) {
                    dueOft(x, one[0], one[1], one[2]);
                }
            }
        }
        // the years' edges
        x.land(0, 0, 0, 364);
        dueOft(x, 364, 120, 2);
        dueOft(x, 364, 180, 1);
        dueOft(x, 365, 59, 1);
        dueOft(x, 365, 60, 0);
        dueOft(x, 365, 120, 1);
    }
}
