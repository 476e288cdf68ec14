/** Sentences of promises 27 to 38: a PROGRAM, ANSWERS, FIND, LANDS; and the order in which they refuse. */
public final class Promises27To38SentencesTest {
    private static final int DAY = 86_400;
    private static final int LAST_COUNT = 900_000_000;

    public static void main(String[] args) {
        Sentences.allPromises(Promises27To38SentencesTest.class, 27, 38);
        Sentences.run(Promises27To38SentencesTest.class);
    }

    static void p27_theProgramInPlaceOfThatAhead() {
        Sentences.says("The first n bytes of the tape (which is empty then, but for 5) are the PROGRAM, in place of that ahead: "
            + "how many LINES (5; 10: the old one stays).");
        LeapNet x = new LeapNet();
        x.clock(0);
        Check.range(x, "n of an empty tape", n -> x.program(n), 0, 0, 5);
        Check.feed(x, "stamp;stamp;########");
        Check.due(x, "the first 12", x.program(12), 2, 0);
        Check.due("empty behind 0", x.feed(0x23202020, 0, 0, 0, 0), 20);
        Check.refused(x, "5 ahead of 10", x.program(21), 5);
        Check.due("not empty behind 5", x.feed(0, 0, 0, 0, 0), 40);
        Check.refused(x, "10", x.program(1), 10);
        Check.due("empty behind 10", x.feed(0x7374616d, 0x703b2020, 0, 0, 0), 20);
        Check.due(x, "the old one stays", x.run(0, 0), 0, 0);
        Check.due(x, "with its two stamps", x.ran(2), 2, 0);
        Check.due(x, "in its place", x.program(6), 1, 0);
        Check.due(x, "run", x.run(0, 0), 0, 0);
        Check.due(x, "with its one stamp", x.ran(2), 1, 0);
        // there is no limit of how many, and an empty one is one
        for (int i = 0; i < 10; i++) {
            Check.due(x, "an empty one", x.program(0), 0, 0);
        }
        Check.due(x, "run", x.run(0, 0), 0, 0);
        Check.due(x, "with no stamp", x.ran(2), 0, 0);
    }

    static void p28_runRefusesInThisOrder() {
        Sentences.says("A RUN: the OUTCOME (2; 5: a COUNT above 899,990,000, too; 8: no PROGRAM).");
        LeapNet x = new LeapNet();
        Check.refused(x, "2 ahead of 5", x.run(0, -1), 2);
        Check.refused(x, "2 ahead of 8", x.run(0, 0), 2);
        x.clock(0);
        x.clock(0);
        Check.refused(x, "5 ahead of 8", x.run(0, 899_990_001), 5);
        Check.refused(x, "8", x.run(0, 0), 8);
        Check.refused(x, "a FAULT is no PROGRAM", Check.program(x, "stamp"), 10);
        Check.refused(x, "still 8", x.run(0, 0), 8);
        x.program(0);
        Check.range(x, "CLOCK", n -> x.run(n, 0), 0, 1, 2);
        Check.range(x, "COUNT", n -> x.run(1, n), 0, 899_990_000, 5);
        Check.refused(x, "the last COUNT", x.run(0, LAST_COUNT), 5);
        Check.program(x, "again 20{wait 3600;}");
        Check.due(x, "from the last it can begin at", x.run(0, 899_990_000), 2, 0);
        Check.due(x, "it ends ahead of the last COUNT", x.ran(0), 899_995_000, 0);
    }

    static void p29_ranOfTheLatest() {
        Sentences.says("Of run() latest with STATUS 0, what 0: the COUNT at which it ended, 1: LATE, 2: how many were kept in all "
            + "(STATUS tells NONE from -1) (5; 8: none).");
        LeapNet x = new LeapNet();
        Check.refused(x, "8", x.ran(0), 8);
        Check.refused(x, "5 ahead of 8", x.ran(3), 5);
        Check.refused(x, "5 ahead of 8, below 0", x.ran(-1), 5);
        x.clock(0);
        x.server(0);
        x.notice(0, 0, 0, -1, 0);
        x.run(0, 0);
        Check.refused(x, "a run() that was refused is none", x.ran(0), 8);
        Check.program(x, "wait 5; again 20{stamp; stamp; stamp;}");
        Check.refused(x, "a PROGRAM is no run()", x.ran(0), 8);
        Check.due(x, "run", x.run(0, DAY - 3), 0, 0);
        x.run(1, 0);
        x.run(0, -1);
        Check.program(x, "stamp;");
        Check.range(x, "what", n -> x.ran(n), 0, 2, 5);
        Check.due(x, "its COUNT", x.ran(0), DAY + 1, 0);
        Check.due(x, "LATE, -1", x.ran(1), -1, 0);
        Check.due(x, "in all, those beyond 40, too", x.ran(2), 60, 0);
        // what comes later does not change it
        x.leap(0, 1);
        x.step(0, 0);
        Check.rules(x, "believe:0;", 0);
        Check.due(x, "its COUNT", x.ran(0), DAY + 1, 0);
        Check.due(x, "LATE", x.ran(1), -1, 0);
        Check.due(x, "run again", x.run(0, 7), 0, 0);
        Check.due(x, "its COUNT", x.ran(0), 7, 0);
        Check.due(x, "LATE from 0 on", x.ran(1), 0, 0);
        Check.due(x, "kept from 0 on", x.ran(2), 1, 0);
    }

    static void p30_theKthThatWasKept() {
        Sentences.says("The k-th that was kept by run() latest with STATUS 0 (8: none such, beyond 40, too).");
        LeapNet x = new LeapNet();
        Check.refused(x, "no run()", x.kept(0), 8);
        x.clock(0);
        Check.program(x, "again 20{stamp; wait 1; parse take;} stamp;");
        Check.refused(x, "not run yet", x.kept(0), 8);
        Check.due(x, "run", x.run(0, 0), 0, 0);
        Check.range(x, "k", n -> x.kept(n), 0, 39, 8);
        Check.due(x, "the first", x.kept(0), 0, 0);
        Check.due(x, "the second", x.kept(1), 1_000, 0);
        Check.due(x, "the last", x.kept(39), 20_000, 0);
        Check.due(x, "the 41st is counted", x.ran(2), 41, 0);
        Check.refused(x, "but not told", x.kept(40), 8);
        x.run(5, 5);
        Check.program(x, "stamp; stamp;");
        Check.due(x, "still of the latest", x.kept(39), 20_000, 0);
        Check.due(x, "run", x.run(0, 9), 0, 0);
        Check.range(x, "k", n -> x.kept(n), 0, 1, 8);
        Check.due(x, "of the new one", x.kept(0), 9_000, 0);
        Check.program(x, "");
        Check.due(x, "run", x.run(0, 9), 0, 0);
        Check.refused(x, "none was kept", x.kept(0), 8);
    }

    static void p31_answersRefuseInThisOrder() {
        Sentences.says("LIARS of so many ANSWERS (1; 3; 5: so many; 4; 5: a number, a least above its greatest; "
            + "each asked of both TRAYS in this order).");
        LeapNet x = new LeapNet();
        Check.fill(x, 0, 3, 5, 5);
        Check.fill(x, 1, 3, 9, 9, 9);
        Check.refused(x, "1 of the first ahead of 3", x.answers(4, 2, 0), 1);
        Check.refused(x, "1 of the second ahead of 3", x.answers(2, 4, 0), 1);
        Check.refused(x, "3 of the first ahead of 5", x.answers(2, 0, 0), 3);
        Check.refused(x, "3 of the second ahead of 5", x.answers(0, 2, 13), 3);
        Check.refused(x, "5 of so many ahead of 4", x.answers(0, 1, 13), 5);
        Check.refused(x, "5 of none", x.answers(0, 1, 0), 5);
        x.write(0, 0, 1_000_001);
        Check.refused(x, "4 of the first ahead of 5 of a number", x.answers(0, 1, 3), 4);
        Check.refused(x, "4 of the second ahead of 5 of a number", x.answers(1, 0, 3), 4);
        Check.refused(x, "5 of a least", x.answers(0, 1, 2), 5);
        Check.refused(x, "5 of a greatest", x.answers(1, 0, 2), 5);
        x.write(0, 0, 10);
        Check.refused(x, "5 of a least above its greatest", x.answers(0, 1, 2), 5);
        x.write(0, 0, 9);
        Check.due(x, "a least that is its greatest", x.answers(0, 1, 2), 0, 0);
        Check.due(x, "9", x.span(0), 9, 0);
    }

    static void p32_spanOfTheLatest() {
        Sentences.says("Of answers() latest with STATUS 0, what 0: the least, 1: the greatest of SPAN (STATUS tells NONE from -1) (5; 8).");
        LeapNet x = new LeapNet();
        Check.refused(x, "8", x.span(0), 8);
        Check.refused(x, "8", x.span(1), 8);
        Check.refused(x, "5 ahead of 8", x.span(2), 5);
        Check.refused(x, "5 ahead of 8, below 0", x.span(-1), 5);
        Check.fill(x, 0, 1, -1, -1);
        x.answers(0, 0, 3);
        Check.refused(x, "refused ones are none", x.span(0), 8);
        Check.due(x, "answers", x.answers(0, 0, 2), 0, 0);
        Check.range(x, "what", n -> x.span(n), 0, 1, 5);
        Check.due(x, "-1", x.span(0), -1, 0);
        Check.due(x, "-1", x.span(1), -1, 0);
        x.write(0, 0, 7);
        x.write(0, 1, 7);
        x.answers(0, 0, 3);
        x.answers(4, 0, 1);
        Check.due(x, "of the latest with STATUS 0", x.span(0), -1, 0);
        Check.due(x, "answers", x.answers(0, 0, 2), 0, 0);
        Check.due(x, "of the new ones", x.span(0), 7, 0);
    }

    static void p33_whetherTheKthLies() {
        Sentences.says("Whether the k-th ANSWER of answers() latest with STATUS 0 LIES: 1 or 0 (8).");
        LeapNet x = new LeapNet();
        Check.refused(x, "8", x.lies(0), 8);
        Check.fill(x, 0, 1, 1, 1, 5, 1, 1, 1, 1, 1, 1, 1, 1, 9);
        Check.due(x, "answers", x.answers(0, 0, 12), 2, 0);
        Check.range(x, "k", n -> x.lies(n), 0, 11, 8);
        for (int k = 0; k < 12; k++) {
            Check.due(x, "lies(" + k + ")", x.lies(k), k == 2 || k == 11 ? 1 : 0, 0);
        }
        x.write(0, 2, 1);
        x.answers(0, 0, 13);
        Check.due(x, "of the latest with STATUS 0", x.lies(2), 1, 0);
        Check.due(x, "answers of one", x.answers(0, 0, 1), 0, 0);
        Check.range(x, "k", n -> x.lies(n), 0, 0, 8);
    }

    static void p34_findRefusesInThisOrder() {
        Sentences.says("FIND: the set of WAYS, of so many SEEN (1; 3; 5: so many; 4; 5: a number; each asked of both TRAYS in this order).");
        LeapNet x = new LeapNet();
        Check.fill(x, 0, 3, 5, 5);
        Check.fill(x, 1, 3, 5_000, 5_000, 5_000);
        Check.refused(x, "1 of the first ahead of 3", x.find(4, 2, 0), 1);
        Check.refused(x, "1 of the second ahead of 3", x.find(2, 4, 0), 1);
        Check.refused(x, "3 of the first ahead of 5", x.find(2, 0, 0), 3);
        Check.refused(x, "3 of the second ahead of 5", x.find(0, 2, 21), 3);
        Check.refused(x, "5 of so many ahead of 4", x.find(0, 1, 21), 5);
        Check.refused(x, "5 of none", x.find(0, 1, 0), 5);
        x.write(0, 0, 86_400_001);
        Check.refused(x, "4 of the first ahead of 5 of a number", x.find(0, 1, 3), 4);
        Check.refused(x, "4 of the second ahead of 5 of a number", x.find(1, 0, 3), 4);
        Check.refused(x, "5 of a SECOND", x.find(0, 1, 2), 5);
        Check.refused(x, "5 of what was shown", x.find(1, 0, 2), 5);
        x.write(0, 0, 5);
        Check.due(x, "the set", x.find(0, 1, 2), 23, 0);
    }

    static void p35_askByTheLatestFind() {
        Sentences.says("ASK, by find() latest with STATUS 0 (8: none, or at all SECONDS all show alike).");
        LeapNet x = new LeapNet();
        Check.refused(x, "no find()", x.ask(), 8);
        Check.fill(x, 0, 3, 0, 86_400);
        Check.fill(x, 1, 3, 0, 0);
        Check.refused(x, "a find() that is refused", x.find(0, 1, 3), 4);
        Check.refused(x, "is none", x.ask(), 8);
        Check.due(x, "find of all", x.find(0, 1, 1), 31, 0);
        Check.due(x, "ask", x.ask(), 86_400, 0);
        Check.due(x, "find of one", x.find(0, 1, 2), 16, 0);
        Check.refused(x, "one shows as itself", x.ask(), 8);
        x.write(1, 1, 86_399_000);
        Check.due(x, "find of two", x.find(0, 1, 2), 10, 0);
        x.find(0, 1, 3);
        Check.due(x, "by the latest with STATUS 0", x.ask(), 1, 0);
        x.write(1, 1, 1);
        Check.due(x, "still so", x.ask(), 1, 0);
        Check.due(x, "find of none", x.find(0, 1, 2), 0, 0);
        Check.refused(x, "of no WAYS", x.ask(), 8);
    }

    static void p36_aLand() {
        Sentences.says("A LAND's OFFSET and SUMMER (2; 5: also from behind to).");
        LeapNet x = new LeapNet();
        Check.rangeTaken(x, "LAND", n -> x.land(n, 0, 0, 0), 0, 3, 2);
        Check.rangeTaken(x, "OFFSET", n -> x.land(0, n, 0, 0), -720, 840, 5);
        Check.rangeTaken(x, "from", n -> x.land(0, 0, n, 200), 0, 200, 5);
        Check.rangeTaken(x, "to", n -> x.land(0, 0, 200, n), 200, 364, 5);
        Check.refused(x, "2 ahead of 5", x.land(4, 841, 5, 4), 2);
        Check.taken(x, "land", x.land(0, 30, 100, 200));
        Check.refused(x, "5", x.land(0, 50, 101, 100), 5);
        Check.due(x, "as it was", x.local(0, 150 * DAY), 150 * 1_440 + 90, 0);
        Check.taken(x, "in its place", x.land(0, 50, 0, 0));
        Check.due(x, "in its place", x.local(0, 150 * DAY), 150 * 1_440 + 50, 0);
    }

    static void p37_localMinutes() {
        Sentences.says("Local minutes of a LAND at a COUNT; STATUS tells NONE from -1 (2; 5).");
        LeapNet x = new LeapNet();
        x.land(3, -1, 0, 0);
        Check.due(x, "-1", x.local(3, 0), -1, 0);
        x.land(3, -720, 0, 0);
        Check.due(x, "the least", x.local(3, 0), -720, 0);
        x.land(3, 840, 0, 364);
        Check.due(x, "the most", x.local(3, LAST_COUNT), 10_416 * 1_440 + 960 + 840 + 60, 0);
        Check.range(x, "LAND", n -> x.local(n, 0), 0, 3, 2);
        Check.range(x, "COUNT", n -> x.local(0, n), 0, LAST_COUNT, 5);
        Check.refused(x, "2 ahead of 5", x.local(4, -1), 2);
    }

    static void p38_howOft() {
        Sentences.says("HOW OFT a local DAY (1 to 9,998) and minute (0 to 1,439) is (2; 5).");
        LeapNet x = new LeapNet();
        Check.range(x, "LAND", n -> x.oft(n, 1, 0), 0, 3, 2);
        Check.range(x, "DAY", n -> x.oft(0, n, 0), 1, 9_998, 5);
        Check.range(x, "minute", n -> x.oft(0, 1, n), 0, 1_439, 5);
        Check.refused(x, "2 ahead of 5", x.oft(4, 0, 1_440), 2);
        x.land(0, 840, 1, 143);
        Check.due(x, "DAY 1, never", x.oft(0, 1, 60), 0, 0);
        Check.due(x, "DAY 1, once", x.oft(0, 1, 59), 1, 0);
        // DAY 9,998 is the DAY 143 of its year
        Check.due(x, "DAY 9,998, twice", x.oft(0, 9_998, 179), 2, 0);
        Check.due(x, "DAY 9,998, once", x.oft(0, 9_998, 180), 1, 0);
    }
}
