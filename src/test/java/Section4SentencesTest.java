/** Sentences of section 4: STAMPS, which of them are WRONG, and the CLOCKS that are BLAMED. */
public final class Section4SentencesTest {
    private static final int DAY = 86_400;
    private static final int LAST_COUNT = 900_000_000;

    public static void main(String[] args) {
        Sentences.run(Section4SentencesTest.class);
    }

    private static void dueBlamed(LeapNet x, int many, int set, int rivals) {
        Check.due(x, "blamed(0)", x.blamed(0), many, 0);
        Check.due(x, "blamed(1)", x.blamed(1), set, 0);
        Check.due(x, "blamed(2)", x.blamed(2), rivals, 0);
    }

    private static void dueWrong(LeapNet x, int pairs) {
        Check.due(x, "wrong()", x.wrong(), pairs, 0);
    }

    static void s4_stampsAtMost60NumberedAsTheyCome() {
        Sentences.says("STAMPS, at most 60, numbered as they come");
        LeapNet x = Nets.ofClocks(2, 0);
        for (int i = 0; i < 60; i++) {
            Check.due(x, "STAMP " + i, x.stamp(i % 2, 5 * i), i, 0);
        }
        Check.refused(x, "a 61st", x.stamp(0, LAST_COUNT), 7);
        Check.refused(x, "a 61st of the other CLOCK", x.stamp(1, 295), 7);
        dueWrong(x, 0);
    }

    /** All 60 are looked at: each of the first 30 stands in the wrong order with each of the last 30. */
    static void s4_sixtyStampsThatAreWrong() {
        Sentences.says("STAMPS, at most 60, numbered as they come");
        LeapNet x = Nets.ofClocks(1, 1);
        x.notice(0, 0, 1, 1, 0);
        for (int i = 0; i < 60; i++) {
            x.stamp(0, i < 30 ? 2 * DAY - 1 : 2 * DAY);
        }
        dueWrong(x, 900);
        dueBlamed(x, 1, 1, 1);
    }

    static void s4_notAheadOfTheStampAhead() {
        Sentences.says("a CLOCK's at a COUNT (not ahead of that of the STAMP ahead)");
        LeapNet x = Nets.ofClocks(2, 0);
        Check.due(x, "the first, at any COUNT", x.stamp(0, 500), 0, 0);
        Check.refused(x, "one ahead of it", x.stamp(0, 499), 12);
        Check.refused(x, "of another CLOCK, too", x.stamp(1, 0), 12);
        Check.due(x, "at the same", x.stamp(1, 500), 1, 0);
        Check.due(x, "one behind it", x.stamp(1, 501), 2, 0);
        Check.refused(x, "that of the first is gone", x.stamp(0, 500), 12);
        Check.due(x, "at the last COUNT", x.stamp(0, LAST_COUNT), 3, 0);
        Check.refused(x, "ahead of the last COUNT", x.stamp(0, LAST_COUNT - 1), 12);
        // NOTICES and RUNS have COUNTS of their own
        Check.due(x, "a NOTICE", x.notice(0, 0, 1, 1, 0), 0, 0);
    }

    static void s4_aStampIsWhatItsClockShows() {
        Sentences.says("that is what it SHOWS there");
        LeapNet x = Nets.ofClocks(2, 0);
        x.notice(0, 0, 1, 1, 0);
        x.notice(0, 1, 1, 1, 0);
        // 86,400,000 of DAY 1 is less than 0 of DAY 2, though both are as far from DAY 0
        x.stamp(0, 2 * DAY);
        x.stamp(1, 2 * DAY + 1);
        dueWrong(x, 0);
        LeapNet y = Nets.ofClocks(1, 1);
        y.notice(0, 0, 1, 1, 0);
        y.stamp(0, 2 * DAY - 1);
        y.stamp(0, 2 * DAY);
        dueWrong(y, 1);
    }

    static void s4_wrongIfTheLesserCountIsNotTheLesser() {
        Sentences.says("WRONG are two STAMPS of unlike COUNTS of which the one with the lesser COUNT is not the lesser.");
        LeapNet x = Nets.ofClocks(2, 0);
        x.leap(0, 1);
        x.leap(1, 1);
        x.step(1, 3 * DAY);
        dueWrong(x, 0);
        // CLOCK 1 is two seconds behind
        x.stamp(0, 3 * DAY + 10);
        x.stamp(1, 3 * DAY + 10);
        dueWrong(x, 0);
        x.stamp(1, 3 * DAY + 11);
        dueWrong(x, 1);
        x.stamp(1, 3 * DAY + 12);
        // alike is not the lesser, either
        dueWrong(x, 2);
        x.stamp(1, 3 * DAY + 13);
        dueWrong(x, 2);
    }

    static void s4_blamedTheFewestSoThatOneIsOfThem() {
        Sentences.says("BLAMED: the fewest CLOCKS so that of two WRONG STAMPS one at least is of them");
        LeapNet x = new LeapNet();
        dueBlamed(x, 0, 0, 1);
        x.clock(0);
        dueBlamed(x, 0, 0, 1);
        // of one CLOCK alone
        LeapNet one = Nets.ofClocks(12, 1);
        one.notice(0, 11, 1, 1, 0);
        one.stamp(11, 2 * DAY - 1);
        one.stamp(11, 2 * DAY);
        dueBlamed(one, 1, 2_048, 1);
        // each of the twelve alone: all must be changed
        LeapNet all = Nets.ofClocks(12, 1);
        for (int i = 0; i < 12; i++) {
            all.notice(0, i, 1, 1, 0);
        }
        for (int i = 0; i < 24; i++) {
            all.stamp(i % 12, i < 12 ? 2 * DAY - 1 : 2 * DAY);
        }
        dueBlamed(all, 12, 4_095, 1);
    }

    static void s4_ofSeveralTheLeastSet() {
        Sentences.says("of several the least set (1 for CLOCK 0, 2 for 1 ..); RIVALS: how many sets of as many.");
        // CLOCKS 1, 3, 5 .. are behind: each is WRONG with the one ahead of it, and with no other
        LeapNet x = Nets.ofClocks(12, 0);
        x.leap(0, 1);
        x.leap(1, 1);
        int rivals = 1;
        int set = 0;
        for (int pair = 0; pair < 6; pair++) {
            x.step(2 * pair + 1, 3 * DAY);
            x.stamp(2 * pair, 3 * DAY + 10 * pair + 10);
            x.stamp(2 * pair + 1, 3 * DAY + 10 * pair + 11);
            rivals *= 2;
            set += 1 << 2 * pair;
            dueBlamed(x, pair + 1, set, rivals);
        }
        dueWrong(x, 6);
        // one with two others: it alone is the fewest, though the others' set be less
        LeapNet star = Nets.ofClocks(3, 0);
        star.leap(0, 1);
        star.leap(1, 1);
        star.step(2, 3 * DAY);
        star.stamp(0, 3 * DAY + 10);
        star.stamp(1, 3 * DAY + 10);
        star.stamp(2, 3 * DAY + 11);
        dueBlamed(star, 1, 4, 1);
    }
}
