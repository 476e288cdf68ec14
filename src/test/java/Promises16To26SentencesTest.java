/** Sentences of promises 16 to 26: the tape, rules, NOTICES, STAMPS; and the order in which they refuse. */
public final class Promises16To26SentencesTest {
    private static final int DAY = 86_400;
    private static final int LAST_COUNT = 900_000_000;

    public static void main(String[] args) {
        Sentences.allPromises(Promises16To26SentencesTest.class, 16, 26);
        Sentences.run(Promises16To26SentencesTest.class);
    }

    static void p16_twentyBytesTheHighestFirst() {
        Sentences.says("Twenty bytes come behind those on the tape, the highest of each int first: how many it has");
        LeapNet x = new LeapNet();
        // "abcd:1;efgh:2;ijkl:3" and "; "
        Check.due("feed", x.feed(0x61626364, 0x3a313b65, 0x6667683a, 0x323b696a, 0x6b6c3a33), 20);
        Check.due("feed behind it", x.feed(0x3b202020, 0x20202020, 0x20202020, 0x20202020, 0x20202020), 40);
        Check.due(x, "three DEFS", x.rules(21, 0), 3, 0);
        // each of the twenty bytes in its place: that which no TOKEN begins with is told by fault(1)
        for (int place = 0; place < 20; place++) {
            int[] fives = {0x20202020, 0x20202020, 0x20202020, 0x20202020, 0x20202020};
            fives[place / 4] ^= 0xdf << 24 - place % 4 * 8;
            LeapNet y = new LeapNet();
            y.feed(fives[0], fives[1], fives[2], fives[3], fives[4]);
            y.rules(20, 0);
            Texts.dueFault(y, "a byte 255 at " + place, 1, place);
        }
    }

    static void p16_noneIfMoreThan500() {
        Sentences.says("NONE if there would be more than 500.");
        LeapNet x = new LeapNet();
        for (int i = 1; i <= 25; i++) {
            Check.due("feed " + i, x.feed(0x20202020, 0x20202020, 0x20202020, 0x20202020, 0x20202020), 20 * i);
        }
        for (int i = 0; i < 3; i++) {
            Check.due("feed beyond 500", x.feed(0x23232323, 0x23232323, 0x23232323, 0x23232323, 0x23232323), LeapNet.NONE);
        }
        Check.due(x, "it is as it was", x.rules(500, 0), 0, 0);
        Check.due("it is empty", x.feed(0, 0, 0, 0, 0), 20);
    }

    static void p17_theFirstBytesOfTheTape() {
        Sentences.says("The first n bytes of the tape (which is empty then, but for 5, 7) are a TEXT in force from a DAY on: how many DEFS");
        LeapNet x = new LeapNet();
        Check.feed(x, "a:1;b:2;############");
        Check.due(x, "the first 8", x.rules(8, 0), 2, 0);
        Check.due("empty behind 0", x.feed(0x23202020, 0, 0, 0, 0), 20);
        Check.refused(x, "a FAULT", x.rules(1, 0), 10);
        Check.due("empty behind 10", x.feed(0x613a313b, 0, 0, 0, 0), 20);
        Check.refused(x, "one more than the tape has", x.rules(21, 0), 5);
        Check.refused(x, "a DAY that can't be", x.rules(4, -1), 5);
        Check.due("not empty behind 5", x.feed(0, 0, 0, 0, 0), 40);
        Check.due(x, "it is as it was", x.rules(4, 0), 1, 0);
        Check.due(x, "none of an empty tape", x.rules(0, 0), 0, 0);
        Check.due("feed", x.feed(0x613a313b, 0, 0, 0, 0), 20);
        Check.due(x, "none of a tape that has some", x.rules(0, 9_999), 0, 0);
        Check.due("empty behind none", x.feed(0x7374616d, 0x703b2020, 0, 0, 0), 20);
        Check.refused(x, "a fifth", x.rules(4, 0), 7);
        Check.due("not empty behind 7", x.feed(0, 0, 0, 0, 0), 40);
        Check.due(x, "it is as it was", x.program(6), 1, 0);
    }

    static void p17_refusesInThisOrder() {
        Sentences.says("(5; 7; 10)");
        LeapNet x = new LeapNet();
        Check.range(x, "n of an empty tape", n -> x.rules(n, 0), 0, 0, 5);
        Check.feed(x, "#");
        Check.refused(x, "5 of n ahead of 10", x.rules(21, 0), 5);
        Check.refused(x, "5 of the DAY ahead of 10", x.rules(1, 10_000), 5);
        Check.refused(x, "10", x.rules(1, 0), 10);
        x.rules(0, 0);
        x.rules(0, 0);
        Check.feed(x, "#");
        Check.refused(x, "7 ahead of 10", x.rules(1, 0), 7);
        Check.refused(x, "5 of n ahead of 7", x.rules(21, 0), 5);
        Check.refused(x, "5 of n below 0 ahead of 7", x.rules(-1, 0), 5);
        Check.refused(x, "5 of the DAY ahead of 7", x.rules(1, -1), 5);
    }

    static void p18_theFaultOfTheLatest() {
        Sentences.says("Of the latest rules() or program() with STATUS 0 or 10, what 0: the FAULT (0 without one), "
            + "1: its place (NONE without). NONE for others, and ahead of any.");
        LeapNet x = new LeapNet();
        Texts.dueFault(x, "ahead of any", LeapNet.NONE, LeapNet.NONE);
        x.rules(1, 0);
        x.program(1);
        Texts.dueFault(x, "ahead of any with STATUS 0 or 10", LeapNet.NONE, LeapNet.NONE);
        Check.rules(x, "a:b;", 0);
        Texts.dueFault(x, "rules with STATUS 10", 6, 2);
        for (int what : new int[] {-1, 2, Integer.MIN_VALUE, Integer.MAX_VALUE}) {
            Check.due("fault(" + what + ")", x.fault(what), LeapNet.NONE);
        }
        x.rules(99, 0);
        x.program(99);
        Texts.dueFault(x, "behind STATUS 5", 6, 2);
        Check.program(x, "stamp;");
        Texts.dueFault(x, "program with STATUS 0", 0, LeapNet.NONE);
        Check.program(x, "stamp");
        Texts.dueFault(x, "program with STATUS 10", 2, 5);
        Check.rules(x, "a:1;", 0);
        Texts.dueFault(x, "rules with STATUS 0", 0, LeapNet.NONE);
        for (int i = 0; i < 3; i++) {
            x.rules(0, 0);
        }
        Check.rules(x, "#", 0);
        Texts.dueFault(x, "behind STATUS 7", 0, LeapNet.NONE);
        x.program(1);
        Texts.dueFault(x, "at place 0", 1, 0);
    }

    static void p19_aServerMore() {
        Sentences.says("A SERVER more: its number (5; 7).");
        LeapNet x = new LeapNet();
        Check.range(x, "STRATUM", n -> x.server(n), 0, 15, 5);
        for (int i = 2; i < 8; i++) {
            Check.due(x, "SERVER " + i, x.server(i), i, 0);
        }
        Check.refused(x, "7", x.server(0), 7);
        Check.refused(x, "5 ahead of 7", x.server(16), 5);
        Check.refused(x, "5 ahead of 7, below 0", x.server(-1), 5);
    }

    static void p20_aNotice() {
        Sentences.says("A NOTICE: its number (2; 5: also a kind other than 1 and -1; 7; 12).");
        LeapNet x = Nets.ofClocks(2, 1);
        x.server(1);
        Check.range(x, "SERVER", n -> x.notice(n, 0, 1, 1, 9), 0, 1, 2);
        Check.range(x, "CLOCK", n -> x.notice(0, n, 1, 1, 9), 0, 1, 2);
        Check.range(x, "DAY", n -> x.notice(0, 0, n, 1, 9), 0, 9_999, 5);
        for (int kind : new int[] {0, 2, -2, Integer.MIN_VALUE, Integer.MAX_VALUE}) {
            Check.refused(x, "kind " + kind, x.notice(0, 0, 1, kind, 9), 5);
        }
        Check.due(x, "kind 1", x.notice(0, 0, 1, 1, 9), 6, 0);
        Check.due(x, "kind -1", x.notice(0, 0, 1, -1, 9), 7, 0);
        Check.refused(x, "2 of the SERVER ahead of 5", x.notice(2, 0, -1, 0, -1), 2);
        Check.refused(x, "2 of the CLOCK ahead of 5", x.notice(0, 2, -1, 0, -1), 2);
        Check.refused(x, "5 of the COUNT ahead of 12", x.notice(0, 0, 1, 1, -1), 5);
        Check.refused(x, "5 of the DAY ahead of 12", x.notice(0, 0, 10_000, 1, 8), 5);
        Check.refused(x, "5 of the kind ahead of 12", x.notice(0, 0, 1, 0, 8), 5);
        Check.refused(x, "2 ahead of 12", x.notice(0, 2, 1, 1, 8), 2);
        Check.refused(x, "12", x.notice(0, 0, 1, 1, 8), 12);
        for (int i = 8; i < 60; i++) {
            Check.due(x, "NOTICE " + i, x.notice(0, 0, 1, 1, 9), i, 0);
        }
        Check.refused(x, "7", x.notice(0, 0, 1, 1, 9), 7);
        Check.refused(x, "7 ahead of 12", x.notice(0, 0, 1, 1, 8), 7);
        Check.refused(x, "5 ahead of 7", x.notice(0, 0, 1, 0, 9), 5);
        Check.refused(x, "2 ahead of 7", x.notice(0, 2, 1, 1, 9), 2);
    }

    static void p21_toldOfANotice() {
        Sentences.says("Of a NOTICE, what 0: whether it came IN TIME, 1: is BELIEVED, 2: is FALSE, 3: whether its CLOCK is FOOLED by it: "
            + "1 or 0 (2; 5).");
        LeapNet x = Nets.ofClocks(1, 1);
        Check.refused(x, "no NOTICE", x.told(0, 0), 2);
        Check.rules(x, "believe:if ahead=3 then 0 else 1;", 0);
        x.leap(2, 1);
        x.notice(0, 0, 2, 1, 0);
        x.notice(0, 0, 4, -1, 0);
        x.notice(0, 0, 3, 1, 0);
        x.notice(0, 0, 4, 1, 5 * DAY + 1);
        int[][] due = {{1, 1, 0, 0}, {1, 1, 1, 1}, {1, 0, 1, 0}, {0, 1, 1, 0}};
        for (int notice = 0; notice < due.length; notice++) {
            for (int what = 0; what < 4; what++) {
                Check.due(x, "told(" + notice + ", " + what + ")", x.told(notice, what), due[notice][what], 0);
            }
        }
        Check.range(x, "NOTICE", n -> x.told(n, 0), 0, 3, 2);
        Check.range(x, "what", n -> x.told(0, n), 0, 3, 5);
        Check.refused(x, "2 ahead of 5", x.told(4, 4), 2);
    }

    static void p22_whatATableTells() {
        Sentences.says("What a CLOCK's TABLE tells of a DAY: 1, 0, or -1 (STATUS tells NONE from -1) (2; 5).");
        LeapNet x = Nets.ofClocks(2, 1);
        x.notice(0, 1, 0, 1, 0);
        x.notice(0, 1, 9_999, -1, 0);
        Check.due(x, "1", x.table(1, 0), 1, 0);
        Check.due(x, "-1", x.table(1, 9_999), -1, 0);
        Check.due(x, "0", x.table(1, 9_998), 0, 0);
        Check.due(x, "of the other CLOCK", x.table(0, 0), 0, 0);
        Check.range(x, "CLOCK", n -> x.table(n, 0), 0, 1, 2);
        Check.range(x, "DAY", n -> x.table(0, n), 0, 9_999, 5);
        Check.refused(x, "2 ahead of 5", x.table(2, -1), 2);
    }

    static void p23_howManyMisses() {
        Sentences.says("MISSES of a CLOCK: how many (2).");
        LeapNet x = Nets.ofClocks(2, 1);
        for (int i = 0; i < 20; i++) {
            x.leap(i, 1);
        }
        for (int i = 0; i < 60; i++) {
            x.notice(0, 1, 100 + i, -1, 0);
        }
        Check.range(x, "CLOCK", n -> x.misses(n), 0, 1, 2);
        Check.due(x, "as many as the TRUE TABLE can tell", x.misses(0), 20, 0);
        Check.due(x, "as many as can be", x.misses(1), 80, 0);
        LeapNet y = new LeapNet();
        Check.refused(y, "no CLOCK", y.misses(0), 2);
    }

    static void p24_aStamp() {
        Sentences.says("A STAMP: its number (2; 5; 7; 12).");
        LeapNet x = new LeapNet();
        Check.refused(x, "no CLOCK", x.stamp(0, 0), 2);
        x.clock(0);
        x.clock(0);
        Check.range(x, "CLOCK", n -> x.stamp(n, 9), 0, 1, 2);
        Check.refused(x, "2 ahead of 5", x.stamp(2, -1), 2);
        Check.refused(x, "2 ahead of 12", x.stamp(2, 8), 2);
        Check.refused(x, "5 ahead of 12", x.stamp(0, -1), 5);
        Check.refused(x, "5 above", x.stamp(0, LAST_COUNT + 1), 5);
        Check.refused(x, "12", x.stamp(0, 8), 12);
        for (int i = 2; i < 60; i++) {
            Check.due(x, "STAMP " + i, x.stamp(0, 9), i, 0);
        }
        Check.refused(x, "7", x.stamp(0, 9), 7);
        Check.refused(x, "7 ahead of 12", x.stamp(0, 8), 7);
        Check.refused(x, "5 ahead of 7", x.stamp(0, -1), 5);
        Check.refused(x, "2 ahead of 7", x.stamp(2, 9), 2);
    }

    static void p25_howManyPairsAreWrong() {
        Sentences.says("How many pairs of STAMPS are WRONG.");
        LeapNet x = Nets.ofClocks(1, 1);
        Check.due(x, "no STAMPS", x.wrong(), 0, 0);
        x.notice(0, 0, 1, 1, 0);
        x.stamp(0, 2 * DAY - 1);
        Check.due(x, "one STAMP", x.wrong(), 0, 0);
        x.stamp(0, 2 * DAY);
        Check.due(x, "one pair", x.wrong(), 1, 0);
        x.stamp(0, 2 * DAY);
        Check.due(x, "two pairs", x.wrong(), 2, 0);
        x.stamp(0, 2 * DAY + 1);
        Check.due(x, "none more", x.wrong(), 2, 0);
    }

    static void p26_blamedSetAndRivals() {
        Sentences.says("BLAMED, what 0: how many, 1: the set, 2: RIVALS (5).");
        LeapNet x = new LeapNet();
        Check.range(x, "what", n -> x.blamed(n), 0, 2, 5);
        Check.due(x, "how many, of none", x.blamed(0), 0, 0);
        Check.due(x, "the set, of none", x.blamed(1), 0, 0);
        Check.due(x, "RIVALS, of none", x.blamed(2), 1, 0);
        // CLOCK 11 is WRONG with each other
        LeapNet y = Nets.ofClocks(12, 1);
        y.leap(0, 1);
        y.leap(1, 1);
        y.step(11, 3 * DAY);
        for (int i = 0; i < 11; i++) {
            y.stamp(i, 3 * DAY + 5);
        }
        y.stamp(11, 3 * DAY + 6);
        Check.due(y, "pairs", y.wrong(), 11, 0);
        Check.due(y, "how many", y.blamed(0), 1, 0);
        Check.due(y, "the set", y.blamed(1), 2_048, 0);
        Check.due(y, "RIVALS", y.blamed(2), 1, 0);
    }
}
