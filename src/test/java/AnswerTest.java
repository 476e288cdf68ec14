/** Promises 31 to 35: ANSWERS of which some lie, and FIND. */
public final class AnswerTest {
    public static void main(String[] args) {
        oneAnswer();
        twoGroups();
        touching();
        spanOverAGap();
        edges();
        answerStatuses();
        latestAnswers();
        find();
        findStatuses();
        ask();
        askEverySet();
        Check.end("AnswerTest");
    }

    private static LeapNet answers(long[] leasts, long[] greatests, int liars) {
        LeapNet x = new LeapNet();
        Check.fill(x, 0, 2, leasts);
        Check.fill(x, 3, 3, greatests);
        Check.due(x, "answers", x.answers(0, 3, leasts.length), liars, 0);
        return x;
    }

    private static void dueSpan(LeapNet x, int least, int greatest, int... lies) {
        Check.due(x, "span(0)", x.span(0), least, 0);
        Check.due(x, "span(1)", x.span(1), greatest, 0);
        for (int k = 0; k < lies.length; k++) {
            Check.due(x, "lies(" + k + ")", x.lies(k), lies[k], 0);
        }
        Check.refused(x, "lies(" + lies.length + ")", x.lies(lies.length), 8);
    }

    private static void oneAnswer() {
        dueSpan(answers(new long[] {-5}, new long[] {7}, 0), -5, 7, 0);
        dueSpan(answers(new long[] {3}, new long[] {3}, 0), 3, 3, 0);
    }

    private static void twoGroups() {
        dueSpan(answers(new long[] {0, 5, 100, 3}, new long[] {10, 20, 120, 8}, 1), 5, 8, 0, 0, 1, 0);
        dueSpan(answers(new long[] {100, 0, 110, 5, 50}, new long[] {120, 10, 130, 20, 60}, 3), 5, 120, 0, 0, 0, 0, 1);
    }

    private static void touching() {
        dueSpan(answers(new long[] {0, 10, 11}, new long[] {10, 20, 30}, 1), 10, 20, 0, 0, 0);
        dueSpan(answers(new long[] {0, 11, 12}, new long[] {10, 20, 30}, 1), 12, 20, 1, 0, 0);
        dueSpan(answers(new long[] {0, 5}, new long[] {4, 9}, 1), 0, 9, 0, 0);
    }

    /** One that stands only between the two groups has none of their numbers, though it lies within the SPAN. */
    private static void spanOverAGap() {
        dueSpan(answers(new long[] {0, 0, 0, 90, 90, 90, 40, 45}, new long[] {9, 8, 7, 99, 98, 97, 50, 60}, 5),
            0, 97, 0, 0, 0, 0, 0, 0, 1, 1);
    }

    private static void edges() {
        dueSpan(answers(new long[] {-1_000_000, 1_000_000}, new long[] {1_000_000, 1_000_000}, 0),
            1_000_000, 1_000_000, 0, 0);
        dueSpan(answers(new long[] {-1_000_000, -1_000_000}, new long[] {-1_000_000, -2}, 0),
            -1_000_000, -1_000_000, 0, 0);
        dueSpan(answers(new long[] {-3, -1}, new long[] {-1, 5}, 0), -1, -1, 0, 0);
        LeapNet x = new LeapNet();
        Check.fill(x, 1, 0, 5, -7, 5, 5);
        Check.due(x, "both of one TRAY", x.answers(1, 1, 4), 1, 0);
        dueSpan(x, 5, 5, 0, 1, 0, 0);
        Check.due(x, "fewer than it has", x.answers(1, 1, 2), 1, 0);
        dueSpan(x, -7, 5, 0, 0);
    }

    private static void answerStatuses() {
        LeapNet x = new LeapNet();
        Check.refused(x, "span(2)", x.span(2), 5);
        Check.refused(x, "span(-1)", x.span(-1), 5);
        Check.refused(x, "span(0)", x.span(0), 8);
        Check.refused(x, "lies(0)", x.lies(0), 8);
        x.tray(0, 2, 13);
        Check.refused(x, "answers(4, 1, 0)", x.answers(4, 1, 0), 1);
        Check.refused(x, "answers(1, 4, 0)", x.answers(1, 4, 0), 1);
        Check.refused(x, "answers(-1, 0, 1)", x.answers(-1, 0, 1), 1);
        Check.refused(x, "answers(0, 1, 0)", x.answers(0, 1, 0), 3);
        Check.refused(x, "answers(1, 0, 0)", x.answers(1, 0, 0), 3);
        x.tray(1, 3, 2);
        x.write(1, 0, -1);
        Check.refused(x, "none", x.answers(0, 1, 0), 5);
        Check.refused(x, "fewer than none", x.answers(0, 1, -1), 5);
        Check.refused(x, "13", x.answers(0, 1, 13), 5);
        Check.refused(x, "too few of the second", x.answers(0, 1, 3), 4);
        Check.refused(x, "too few of the first", x.answers(1, 0, 3), 4);
        Check.refused(x, "a least above its greatest", x.answers(0, 1, 1), 5);
        Check.refused(x, "still none", x.span(0), 8);
        x.write(1, 0, 1_000_001);
        Check.refused(x, "a greatest that can't be", x.answers(0, 1, 1), 5);
        Check.refused(x, "a least that can't be", x.answers(1, 1, 1), 5);
        x.write(1, 0, -1_000_001);
        Check.refused(x, "a least that can't be", x.answers(1, 0, 1), 5);
        x.write(1, 0, 1L << 40);
        Check.refused(x, "a greatest that can't be", x.answers(0, 1, 1), 5);
        x.write(1, 0, 1_000_000);
        Check.due(x, "one that can", x.answers(0, 1, 2), 0, 0);
        x.write(1, 1, -1);
        Check.refused(x, "the second can't be", x.answers(0, 1, 2), 5);
        Check.due(x, "the first alone", x.answers(0, 1, 1), 0, 0);
        x.tray(2, 2, 12);
        Check.due(x, "twelve", x.answers(0, 2, 12), 0, 0);
    }

    private static void latestAnswers() {
        LeapNet x = answers(new long[] {0, 50, 2}, new long[] {10, 60, 9}, 1);
        x.write(0, 1, 3);
        x.tray(3, 0, 0);
        Check.refused(x, "too few", x.answers(0, 3, 2), 4);
        dueSpan(x, 2, 9, 0, 1, 0);
        Check.refused(x, "lies(-1)", x.lies(-1), 8);
        Check.refused(x, "span(2)", x.span(2), 5);
    }

    private static LeapNet seen(int set, long... pairs) {
        LeapNet x = new LeapNet();
        int many = pairs.length / 2;
        x.tray(2, 2, many);
        x.tray(1, 3, many);
        for (int i = 0; i < many; i++) {
            x.write(2, i, pairs[2 * i]);
            x.write(1, i, pairs[2 * i + 1]);
        }
        Check.due(x, "find", x.find(2, 1, many), set, 0);
        return x;
    }

    private static void find() {
        seen(31, 0, 0);
        seen(23, 1, 1_000);
        seen(8, 1, 999);
        seen(0, 1, 998);
        seen(1, 86_400, 86_400_000);
        seen(10, 86_400, 86_399_000);
        seen(4, 86_400, 86_399_999);
        seen(16, 86_400, 0);
        seen(0, 86_400, 1);
        seen(23, 86_399, 86_399_000);
        seen(8, 86_399, 86_398_000);
        seen(2, 86_400, 86_399_000, 5, 5_000);
        seen(8, 86_400, 86_399_000, 5, 4_999);
        seen(0, 1, 1_000, 1, 999);
        seen(0, 86_400, 86_399_999, 0, 0, 7, 6_999);
        seen(8, 43_200, 43_199_500);
    }

    private static void findStatuses() {
        LeapNet x = new LeapNet();
        Check.refused(x, "ask()", x.ask(), 8);
        x.tray(0, 2, 21);
        Check.refused(x, "find(4, 1, 0)", x.find(4, 1, 0), 1);
        Check.refused(x, "find(1, -1, 0)", x.find(1, -1, 0), 1);
        Check.refused(x, "find(0, 1, 0)", x.find(0, 1, 0), 3);
        Check.refused(x, "find(1, 0, 0)", x.find(1, 0, 0), 3);
        x.tray(1, 3, 2);
        Check.refused(x, "none", x.find(0, 1, 0), 5);
        Check.refused(x, "21", x.find(0, 1, 21), 5);
        Check.refused(x, "too few of the second", x.find(0, 1, 3), 4);
        Check.refused(x, "too few of the first", x.find(1, 0, 3), 4);
        x.write(1, 1, 86_400_001);
        Check.refused(x, "shown that can't be", x.find(0, 1, 2), 5);
        Check.refused(x, "a SECOND that can't be", x.find(1, 0, 2), 5);
        x.write(1, 1, -1);
        Check.refused(x, "shown below 0", x.find(0, 1, 2), 5);
        Check.refused(x, "a SECOND below 0", x.find(1, 0, 2), 5);
        x.write(1, 1, 86_401);
        Check.refused(x, "SECOND 86401", x.find(1, 0, 2), 5);
        x.write(1, 0, 86_401);
        Check.refused(x, "the first SECOND can't be", x.find(1, 0, 1), 5);
        x.write(1, 0, 86_400_001);
        Check.refused(x, "the first shown can't be", x.find(0, 1, 1), 5);
        x.write(1, 0, 0);
        Check.refused(x, "ask(), still none", x.ask(), 8);
        Check.due(x, "the first alone", x.find(1, 0, 1), 31, 0);
        x.write(1, 1, (1L << 32) + 5);
        Check.refused(x, "a SECOND of more bits", x.find(1, 0, 2), 5);
        Check.due(x, "ask() by the latest with STATUS 0", x.ask(), 86_400, 0);
        x.tray(2, 2, 20);
        Check.due(x, "twenty", x.find(0, 2, 20), 31, 0);
    }

    private static void ask() {
        Check.due("of all", seen(31, 0, 0).ask(), 86_400);
        Check.due("of 0, 1, 2, 4", seen(23, 1, 1_000).ask(), 86_400);
        Check.due("of 1 and 3", seen(10, 86_400, 86_399_000).ask(), 1);
        LeapNet one = seen(1, 86_400, 86_400_000);
        Check.refused(one, "of one", one.ask(), 8);
        LeapNet none = seen(0, 1, 2);
        Check.refused(none, "of none", none.ask(), 8);
    }

    /** Which SECOND is asked for is looked for through the whole DAY. */
    private static void askEverySet() {
        long[][] firsts = {{0, 0}, {1, 1_000}, {86_400, 86_399_000}};
        int[] sets = {31, 23, 10};
        for (int i = 0; i < sets.length; i++) {
            Check.due("set " + sets[i], seen(sets[i], firsts[i]).ask(), leastSecond(sets[i]));
        }
    }

    private static int leastSecond(int set) {
        int best = 1;
        int at = LeapNet.NONE;
        for (int second = 0; second <= 86_400; second++) {
            java.util.Set<Long> shown = new java.util.HashSet<>();
            for (int way = 0; way < 5; way++) {
                if ((set >> way & 1) == 1) {
                    shown.add(shownBy(way, second));
                }
            }
            if (shown.size() > best) {
                best = shown.size();
                at = second;
            }
        }
        return at;
    }

    private static long shownBy(int way, int second) {
        if (way == 3) {
            return second * 86_400_000L / 86_401;
        }
        long[] last = {86_400_000, 86_399_000, 86_399_999, 0, 0};
        return second == 86_400 ? last[way] : 1000L * second;
    }
}
