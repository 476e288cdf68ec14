/** Promises 27 to 30: a PROGRAM, its FAULTS, and how it runs. */
public final class ProgramTest {
    private static final int DAY = 86_400;
    private static final long SHOWN = 100_000_000L;

    public static void main(String[] args) {
        tape();
        goodTexts();
        faults();
        statuses();
        waits();
        waitsOverTheSecond();
        waitsOverSteps();
        untils();
        parses();
        agains();
        ever();
        overAtTheLastCount();
        behindTheLastCount();
        mostKept();
        keptOfLatest();
        manyRows();
        Check.end("ProgramTest");
    }

    private static void tape() {
        LeapNet x = new LeapNet();
        Check.refused(x, "program(1)", x.program(1), 5);
        Check.refused(x, "program(-1)", x.program(-1), 5);
        Check.feed(x, "stamp;stamp;");
        Check.refused(x, "program(21)", x.program(21), 5);
        Check.due("the tape stays behind 5", x.feed(0x20202020, 0x20202020, 0x20202020, 0x20202020, 0x20202020), 40);
        Check.due(x, "program(6)", x.program(6), 1, 0);
        Check.due("the tape is empty behind it", x.feed(0, 0, 0, 0, 0), 20);
        Check.refused(x, "a FAULT", x.program(1), 10);
        Check.due("the tape is empty behind a FAULT", x.feed(0, 0, 0, 0, 0), 20);
        x.clock(0);
        Check.due(x, "the old one stays", x.run(0, 0), 0, 0);
        Check.due(x, "the old one stamps", x.ran(2), 1, 0);
        Check.due(x, "an empty one", x.program(0), 0, 0);
        Check.due(x, "in its place", x.run(0, 0), 0, 0);
        Check.due(x, "it stamps nothing", x.ran(2), 0, 0);
    }

    private static void goodTexts() {
        Texts.goodProgram("", 0);
        Texts.goodProgram("\n \n", 0);
        Texts.goodProgram("wait 1;wait 3600;wait 001;", 3);
        Texts.goodProgram("until 0:0:0;until 23:59:59;until 00 : 00 : 00 ;", 3);
        Texts.goodProgram("stamp;parse refuse;parse fold;parse take;", 4);
        Texts.goodProgram("again 2{}", 1);
        Texts.goodProgram("again 20 { stamp; again 2 { again 2 { wait 5 ; } } } stamp;", 6);
        Texts.goodProgram("stamp;".repeat(40), 40);
        Texts.goodProgram("again 2 {" + "stamp;".repeat(39) + "}", 40);
        Texts.goodProgram("again 2 {}".repeat(40), 40);
    }

    private static void faults() {
        Texts.faultyProgram("^x;", 2);
        Texts.faultyProgram("^waits 1;", 2);
        Texts.faultyProgram("^refuse;", 2);
        Texts.faultyProgram("^;", 2);
        Texts.faultyProgram("^1;", 2);
        Texts.faultyProgram("^}", 2);
        Texts.faultyProgram("stamp;^}", 2);
        Texts.faultyProgram("stamp ^stamp;", 2);
        Texts.faultyProgram("stamp^", 2);
        Texts.faultyProgram("stamp  ^", 2);
        Texts.faultyProgram("wait^;", 2);
        Texts.faultyProgram("wait ^x;", 2);
        Texts.faultyProgram("wait 5 ^5;", 2);
        Texts.faultyProgram("wait ^0;", 4);
        Texts.faultyProgram("wait ^3601;", 4);
        Texts.faultyProgram("wait ^999999;", 4);
        Texts.faultyProgram("wait ^1234567;", 1);
        Texts.faultyProgram("wait ^-1;", 2);
        Texts.faultyProgram("until ^24:0:0;", 4);
        Texts.faultyProgram("until 0:^60:0;", 4);
        Texts.faultyProgram("until 0:0:^60;", 4);
        Texts.faultyProgram("until 0^;", 2);
        Texts.faultyProgram("until 0:0^;", 2);
        Texts.faultyProgram("until 0:0:^;", 2);
        Texts.faultyProgram("until 0:0:0^:0;", 2);
        Texts.faultyProgram("parse ^;", 2);
        Texts.faultyProgram("parse ^stamp;", 2);
        Texts.faultyProgram("parse ^folds;", 2);
        Texts.faultyProgram("parse ^5;", 2);
        Texts.faultyProgram("parse fold^", 2);
        Texts.faultyProgram("again ^1 {}", 4);
        Texts.faultyProgram("again ^21 {}", 4);
        Texts.faultyProgram("again ^{}", 2);
        Texts.faultyProgram("again 2 ^stamp;", 2);
        Texts.faultyProgram("again 2 { stamp; ^", 2);
        Texts.faultyProgram("again 2 { stamp; }^;", 2);
        Texts.faultyProgram("again 2 { ^x }", 2);
        Texts.faultyProgram("again 2 { } ^}", 2);
        Texts.faultyProgram("stamp;^.", 1);
        Texts.faultyProgram("stamp;^#", 1);
        Texts.faultyProgram("wait ^A;", 1);
        Texts.faultyProgram("stamp;^<", 2);
        Texts.faultyProgram("stamp;^(", 2);
        Texts.faultyProgram("again 2 {again 2 {again 2 {^again 2 {}}}}", 5);
        Texts.faultyProgram("again 2 {again 2 {again 2 {^again", 5);
        Texts.goodProgram("again 2 {again 2 {again 2 {}}again 2 {again 2{}}}", 5);
        Texts.faultyProgram("again 2 {again 2 {again 2 {}again 3{stamp;^again 2 {}}}}", 5);
        Texts.faultyProgram("stamp;".repeat(40) + "^stamp;", 3);
        Texts.faultyProgram("stamp;".repeat(40) + "^wait 0;", 3);
        Texts.faultyProgram("stamp;".repeat(40) + "^x;", 2);
        Texts.faultyProgram("stamp;".repeat(40) + "^}", 2);
        Texts.faultyProgram("again 2 {" + "stamp;".repeat(39) + "^stamp;}", 3);
        Texts.faultyProgram("again 2 {again 2 {again 2 {" + "stamp;".repeat(37) + "^again 2 {}}}}", 3);
    }

    private static void statuses() {
        LeapNet x = new LeapNet();
        Check.refused(x, "run(0, -1)", x.run(0, -1), 2);
        x.clock(0);
        Check.refused(x, "run(1, -1)", x.run(1, -1), 2);
        Check.refused(x, "run(-1, 0)", x.run(-1, 0), 2);
        Check.refused(x, "run(0, -1)", x.run(0, -1), 5);
        Check.refused(x, "run(0, 899990001)", x.run(0, 899_990_001), 5);
        Check.refused(x, "run(0, 0)", x.run(0, 0), 8);
        Check.refused(x, "ran(3)", x.ran(3), 5);
        Check.refused(x, "ran(-1)", x.ran(-1), 5);
        Check.refused(x, "ran(0)", x.ran(0), 8);
        Check.refused(x, "kept(0)", x.kept(0), 8);
        Check.program(x, "stamp;");
        Check.refused(x, "ran(0), not run yet", x.ran(0), 8);
        Check.due(x, "run(0, 899990000)", x.run(0, 899_990_000), 0, 0);
        dueRan(x, 899_990_000, 0, 10_416 * SHOWN + 47_600_000);
        Check.refused(x, "ran(3)", x.ran(3), 5);
        Check.refused(x, "kept(1)", x.kept(1), 8);
        Check.refused(x, "kept(-1)", x.kept(-1), 8);
    }

    private static void dueRan(LeapNet x, int count, int late, long... kept) {
        Check.due(x, "ran(0)", x.ran(0), count, 0);
        Check.due(x, "ran(1)", x.ran(1), late, 0);
        Check.due(x, "ran(2)", x.ran(2), kept.length, 0);
        for (int k = 0; k < kept.length; k++) {
            Check.due(x, "kept(" + k + ")", x.kept(k), kept[k], 0);
        }
        Check.refused(x, "kept(" + kept.length + ")", x.kept(kept.length), 8);
    }

    private static void waits() {
        LeapNet x = Nets.withProgram(1, "stamp; wait 5; stamp; wait 3600; stamp;");
        Check.due(x, "run", x.run(0, 100), 0, 0);
        dueRan(x, 3_705, 0, 100_000, 105_000, 3_705_000);
        Check.due(x, "run over midnight", x.run(0, DAY - 2), 0, 0);
        dueRan(x, DAY + 3_603, 0, 86_398_000, SHOWN + 3_000, SHOWN + 3_603_000);
        // a CLOCK that smears is slower in a longer DAY: the long wait takes one COUNT more
        Check.due(x, "run while it smears", x.run(3, DAY + 1_000), 0, 0);
        dueRan(x, DAY + 4_606, 1, SHOWN + 999_988, SHOWN + 1_004_988, SHOWN + 4_605_946);
        LeapNet y = Nets.withProgram(-1, "wait 3600; wait 1;");
        Check.due(y, "run while it smears", y.run(3, DAY + 1_000), 0, 0);
        dueRan(y, DAY + 4_601, 0);
    }

    private static void waitsOverTheSecond() {
        LeapNet x = Nets.withProgram(1, "wait 5; stamp;");
        // a DAY counts 86,400,000: the CLOCK that tells stands at it in SECOND 86,400 and in the next DAY's 0
        Check.due(x, "it tells", x.run(0, 2 * DAY - 3), 0, 0);
        dueRan(x, 2 * DAY + 3, 1, 2 * SHOWN + 2_000);
        Check.due(x, "it repeats", x.run(1, 2 * DAY - 3), 0, 0);
        dueRan(x, 2 * DAY + 3, 1, 2 * SHOWN + 2_000);
        Check.due(x, "it stops", x.run(2, 2 * DAY - 3), 0, 0);
        dueRan(x, 2 * DAY + 3, 1, 2 * SHOWN + 2_000);
        Check.due(x, "it was not told", x.run(4, 2 * DAY - 3), 0, 0);
        dueRan(x, 2 * DAY + 2, 0, 2 * SHOWN + 2_000);
        LeapNet y = Nets.withProgram(1, "wait 3; stamp;");
        Check.due(y, "it tells, up to it", y.run(0, 2 * DAY - 3), 0, 0);
        dueRan(y, 2 * DAY, 0, SHOWN + 86_400_000);
        Check.due(y, "it repeats, up to it", y.run(1, 2 * DAY - 3), 0, 0);
        dueRan(y, 2 * DAY + 1, 1, 2 * SHOWN);
        LeapNet z = Nets.withProgram(-1, "wait 5; stamp;");
        Check.due(z, "a second less", z.run(0, 2 * DAY - 3), 0, 0);
        dueRan(z, 2 * DAY + 1, -1, 2 * SHOWN + 2_000);
    }

    private static void waitsOverSteps() {
        LeapNet x = Nets.withProgram(1, "wait 5; wait 6; stamp;");
        x.step(4, 2 * DAY + 13);
        Check.due(x, "it is stepped back", x.run(4, 2 * DAY + 10), 0, 0);
        dueRan(x, 2 * DAY + 22, 1, 2 * SHOWN + 21_000);
        LeapNet y = Nets.withProgram(-1, "wait 5; wait 6; stamp;");
        y.step(4, 2 * DAY + 13);
        Check.due(y, "it is stepped on", y.run(4, 2 * DAY + 10), 0, 0);
        dueRan(y, 2 * DAY + 20, -1, 2 * SHOWN + 21_000);
        LeapNet z = Nets.withProgram(1, "wait 5; stamp;");
        z.leap(2, 1);
        z.leap(3, 1);
        z.step(4, 5 * DAY + 13);
        Check.due(z, "it is stepped back by three", z.run(4, 5 * DAY + 10), 0, 0);
        dueRan(z, 5 * DAY + 18, 3, 5 * SHOWN + 15_000);
    }

    private static void untils() {
        LeapNet x = Nets.withProgram(1, "until 1:0:0; stamp; until 0:59:59; stamp; until 1:0:1; stamp;");
        Check.due(x, "run", x.run(0, 3_000), 0, 0);
        dueRan(x, 3_601, 0, 3_600_000, 3_600_000, 3_601_000);
        LeapNet y = Nets.withProgram(1, "until 23:59:59; stamp; wait 1; until 0:0:0; stamp;");
        Check.due(y, "run to midnight", y.run(0, DAY - 100), 0, 0);
        dueRan(y, DAY, 0, 86_399_000, SHOWN);
        Check.due(y, "run while it smears", y.run(3, 2 * DAY - 100), 0, 0);
        dueRan(y, 2 * DAY + 1, 0, SHOWN + 86_399_000, 2 * SHOWN);
        LeapNet z = Nets.withProgram(-1, "until 23:59:59; stamp;");
        Check.due(z, "a second that it has not", z.run(0, 2 * DAY - 10), 2, 0);
        dueRan(z, 2 * DAY + 4_990, 0);
        Check.due(z, "at once in it", z.run(3, 2 * DAY - 2), 2, 0);
        dueRan(z, 2 * DAY + 4_998, 0);
    }

    private static void parses() {
        String all = "parse take; parse fold; stamp; parse refuse; stamp;";
        LeapNet x = Nets.withProgram(1, all);
        Check.due(x, "it tells", x.run(0, 2 * DAY), 1, 0);
        dueRan(x, 2 * DAY, 0, SHOWN + 86_400_000, 2 * SHOWN, SHOWN + 86_400_000);
        long last = SHOWN + 86_399_000;
        Check.due(x, "it repeats", x.run(1, 2 * DAY), 0, 0);
        dueRan(x, 2 * DAY, 0, last, last, last, last, last);
        Check.due(x, "it stops", x.run(2, 2 * DAY), 0, 0);
        Check.due(x, "what it shows", x.kept(3), SHOWN + 86_399_999, 0);
        Check.due(x, "the next DAY's 0", x.run(0, 2 * DAY + 1), 0, 0);
        Check.due(x, "is kept as it is", x.kept(1), 2 * SHOWN, 0);
        LeapNet y = Nets.withProgram(1, "wait 1; parse refuse; stamp; wait 100;");
        Check.due(y, "refused behind a wait", y.run(0, 2 * DAY - 1), 1, 0);
        dueRan(y, 2 * DAY, 0);
        LeapNet z = Nets.withProgram(1, "again 5 { again 3 { wait 1; parse refuse; } stamp; }");
        Check.due(z, "refused within agains", z.run(0, 2 * DAY - 5), 1, 0);
        dueRan(z, 2 * DAY, 0, SHOWN + 86_396_000, SHOWN + 86_397_000, SHOWN + 86_398_000, SHOWN + 86_398_000,
            SHOWN + 86_399_000);
    }

    private static void agains() {
        LeapNet x = Nets.withProgram(1, "again 2 { stamp; again 3 { wait 1; } } stamp; again 20 { } again 2 { again 2 { again 2 {"
            + " wait 10; } } stamp; }");
        Check.due(x, "run", x.run(0, 0), 0, 0);
        dueRan(x, 86, 0, 0, 3_000, 6_000, 46_000, 86_000);
    }

    private static void ever() {
        LeapNet x = Nets.withProgram(1, "again 20 { wait 1000; stamp; }");
        Check.due(x, "run", x.run(0, 500), 2, 0);
        dueRan(x, 5_500, 0, 1_500_000, 2_500_000, 3_500_000, 4_500_000, 5_500_000);
        LeapNet y = Nets.withProgram(1, "wait 3600; wait 1401; stamp;");
        Check.due(y, "one behind the 5,000th", y.run(0, 7), 2, 0);
        dueRan(y, 5_007, 0);
        LeapNet z = Nets.withProgram(1, "wait 3600; wait 1400; stamp;");
        Check.due(z, "late waits", z.run(1, 2 * DAY - 100), 2, 0);
        dueRan(z, 2 * DAY + 4_900, 1);
        LeapNet w = Nets.withProgram(1, "until 23:0:0; stamp;");
        Check.due(w, "until for ever", w.run(0, 0), 2, 0);
        dueRan(w, 5_000, 0);
        LeapNet v = Nets.withProgram(1, "until 1:23:21; stamp;");
        Check.due(v, "until one behind the 5,000th", v.run(0, 0), 2, 0);
        dueRan(v, 5_000, 0);
        Check.due(v, "until the 5,000th", v.run(0, 1), 0, 0);
        dueRan(v, 5_001, 0, 5_001_000);
    }

    /** A LINE that is over at just the 5,000th COUNT is done, and the RUN with it if it is the last. */
    private static void overAtTheLastCount() {
        LeapNet x = Nets.withProgram(1, "wait 3600; wait 1399; stamp;");
        Check.due(x, "ahead of the 5,000th", x.run(0, 7), 0, 0);
        dueRan(x, 5_006, 0, 5_006_000);
        Check.due(x, "late, at the 5,000th", x.run(1, 2 * DAY - 100), 0, 0);
        dueRan(x, 2 * DAY + 4_900, 1, 2 * SHOWN + 4_899_000);
        LeapNet y = Nets.withProgram(1, "wait 3600; wait 1400;");
        Check.due(y, "a wait, the last LINE", y.run(0, 0), 0, 0);
        dueRan(y, 5_000, 0);
        Check.due(y, "from the last COUNT on", y.run(0, 899_990_000), 0, 0);
        dueRan(y, 899_995_000, 0);
        LeapNet z = Nets.withProgram(-1, "wait 3600; wait 1401;");
        Check.due(z, "a wait that is shorter", z.run(0, 2 * DAY - 100), 0, 0);
        dueRan(z, 2 * DAY + 4_900, -1);
        LeapNet w = Nets.withProgram(1, "until 1:23:20;");
        Check.due(w, "an until, the last LINE", w.run(0, 0), 0, 0);
        dueRan(w, 5_000, 0);
        LeapNet v = Nets.withProgram(1, "again 5 { wait 1000; }");
        Check.due(v, "the last time of an again", v.run(4, 20), 0, 0);
        dueRan(v, 5_020, 0);
        LeapNet u = Nets.withProgram(-1, "wait 3600; wait 1401; stamp;");
        u.step(4, 2 * DAY + 4_900);
        Check.due(u, "a STEP at the 5,000th ends it", u.run(4, 2 * DAY - 100), 0, 0);
        dueRan(u, 2 * DAY + 4_900, -1, 2 * SHOWN + 4_901_000);
    }

    /** At the 5,000th COUNT what takes no time is done; what would have to go on is for EVER. */
    private static void behindTheLastCount() {
        LeapNet x = Nets.withProgram(1, "wait 3600; wait 1400; stamp; until 1:23:20; until 0:0:0; again 2 { parse refuse; }");
        Check.due(x, "all that takes no time", x.run(0, 0), 0, 0);
        dueRan(x, 5_000, 0, 5_000_000, 5_000_000, 5_000_000);
        Check.due(x, "an until that goes on", x.run(0, 3 * DAY + 1 - 5_000), 2, 0);
        dueRan(x, 3 * DAY + 1, 0, 3 * SHOWN);
        LeapNet y = Nets.withProgram(1, "until 1:23:20; stamp; wait 1; stamp;");
        Check.due(y, "a wait that begins there", y.run(0, 0), 2, 0);
        dueRan(y, 5_000, 0, 5_000_000);
        LeapNet z = Nets.withProgram(1, "wait 3600; wait 1400; stamp; until 1:23:21; stamp;");
        Check.due(z, "an until that begins there", z.run(0, 0), 2, 0);
        dueRan(z, 5_000, 0, 5_000_000);
        LeapNet w = Nets.withProgram(1, "wait 3600; wait 1400; parse take; parse refuse; stamp;");
        Check.due(w, "refused there", w.run(0, 2 * DAY - 5_000), 1, 0);
        dueRan(w, 2 * DAY, 0, SHOWN + 86_400_000);
    }

    private static void mostKept() {
        LeapNet x = Nets.withProgram(1, "again 20 { stamp; parse take; wait 1; }");
        Check.due(x, "run", x.run(0, 0), 0, 0);
        Check.due(x, "forty", x.ran(2), 40, 0);
        Check.due(x, "kept(39)", x.kept(39), 19_000, 0);
        Check.refused(x, "kept(40)", x.kept(40), 8);
        LeapNet y = Nets.withProgram(1, "again 20 { stamp; parse take; wait 1; } stamp; parse fold;");
        Check.due(y, "run", y.run(0, 0), 0, 0);
        Check.due(y, "forty-two in all", y.ran(2), 42, 0);
        Check.due(y, "kept(39)", y.kept(39), 19_000, 0);
        Check.refused(y, "kept(40)", y.kept(40), 8);
        Check.refused(y, "kept(41)", y.kept(41), 8);
    }

    private static void keptOfLatest() {
        LeapNet x = Nets.withProgram(1, "stamp; wait 3; stamp;");
        x.run(0, 10);
        Check.refused(x, "no clock 5", x.run(5, 10), 2);
        dueRan(x, 13, 0, 10_000, 13_000);
        Check.program(x, "stamp;");
        dueRan(x, 13, 0, 10_000, 13_000);
        Check.due(x, "run", x.run(4, 20), 0, 0);
        dueRan(x, 20, 0, 20_000);
        x.leap(0, -1);
        x.step(4, 0);
        dueRan(x, 20, 0, 20_000);
    }

    private static void manyRows() {
        LeapNet x = Nets.withProgram(1, "again 20 { again 20 { again 20 { " + "stamp;".repeat(37) + " } } }");
        Check.due(x, "run", x.run(0, 0), 0, 0);
        Check.due(x, "all are kept count", x.ran(2), 20 * 20 * 20 * 37, 0);
    }
}
