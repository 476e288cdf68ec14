/** Sentences of section 5: a PROGRAM, its FAULTS, and its RUN. */
public final class Section5SentencesTest {
    private static final int DAY = 86_400;
    private static final long SHOWN = 100_000_000L;
    private static final String FORTY_LINES = "stamp;".repeat(40);

    public static void main(String[] args) {
        Sentences.run(Section5SentencesTest.class);
    }

    private static void dueRun(LeapNet x, int clock, int count, int outcome, int end, int late) {
        String run = "run(" + clock + ", " + count + ")";
        Check.due(x, run, x.run(clock, count), outcome, 0);
        Check.due(x, run + ", ran(0)", x.ran(0), end, 0);
        Check.due(x, run + ", ran(1)", x.ran(1), late, 0);
    }

    private static void dueKept(LeapNet x, long... kept) {
        Check.due(x, "ran(2)", x.ran(2), kept.length, 0);
        for (int k = 0; k < kept.length; k++) {
            Check.due(x, "kept(" + k + ")", x.kept(k), kept[k], 0);
        }
        Check.refused(x, "kept(" + kept.length + ")", x.kept(kept.length), 8);
    }

    static void s5_programOfAtMost500Bytes() {
        Sentences.says("A PROGRAM is a TEXT of at most 500 bytes");
        LeapNet x = new LeapNet();
        Check.feed(x, " ".repeat(494) + "stamp;");
        Check.refused(x, "501 bytes", x.program(501), 5);
        Check.due(x, "500 bytes", x.program(500), 1, 0);
        LeapNet y = new LeapNet();
        Check.feed(y, " ".repeat(494) + "stamp;");
        Check.refused(y, "499 bytes", y.program(499), 10);
        Texts.dueFault(y, "499 bytes", 2, 499);
        Texts.faultyProgram(" ".repeat(499) + "^#", 1);
    }

    static void s5_tokensAsInRulesAndTwoSigns() {
        Sentences.says("TOKENS as in 2, and SIGNS { } .");
        Texts.goodProgram("again 2{stamp;}", 2);
        Texts.goodProgram("again\n2 {\n}\n", 1);
        Texts.goodProgram("wait1;until1:2:3;again2{}", 3);
        Texts.goodProgram("wait 000001;", 1);
        for (char sign : ":;<>=+-*/%(),{}0".toCharArray()) {
            Texts.faultyProgram("stamp;^" + sign, 2);
        }
        for (char sign : new char[] {'[', ']', '|', '~', '`', 'A', 'Z', '!', '_', 0, 9, 13, 255}) {
            Texts.faultyProgram("stamp;^" + sign, 1);
        }
    }

    static void s5_programOfLines() {
        Sentences.says("PROGRAM: {LINE}. LINE: wait NUMBER ; or until NUMBER : NUMBER : NUMBER ; or stamp ; or parse HOW ; "
            + "or again NUMBER { {LINE} } HOW: refuse, fold, take.");
        Texts.goodProgram("", 0);
        Texts.goodProgram(" \n", 0);
        Texts.goodProgram("wait 1; until 0:0:0; stamp; parse refuse; parse fold; parse take; again 2 { }", 7);
        Texts.goodProgram("again 2 { again 2 { again 2 { wait 1; } stamp; } stamp; } stamp;", 7);
        Texts.faultyProgram("wait^", 2);
        Texts.faultyProgram("wait 1^", 2);
        Texts.faultyProgram("wait ^stamp;", 2);
        Texts.faultyProgram("until 0  ^", 2);
        Texts.faultyProgram("until 0:^:0;", 2);
        Texts.faultyProgram("until 0:0^;", 2);
        Texts.faultyProgram("until 0:0:0^:0;", 2);
        Texts.faultyProgram("stamp^", 2);
        Texts.faultyProgram("stamp ^1;", 2);
        Texts.faultyProgram("parse^;", 2);
        Texts.faultyProgram("parse ^wait;", 2);
        Texts.faultyProgram("parse ^refused;", 2);
        Texts.faultyProgram("^refuse;", 2);
        Texts.faultyProgram("again 2^;", 2);
        Texts.faultyProgram("again 2{^", 2);
        Texts.faultyProgram("again 2{stamp;^", 2);
        Texts.faultyProgram("again 2{}^;", 2);
        Texts.faultyProgram("^}", 2);
        Texts.faultyProgram("again 2{}^}", 2);
        Texts.faultyProgram("^{}", 2);
        Texts.faultyProgram("^if 1=1 then 1 else 2;", 2);
    }

    static void s5_faults1And2() {
        Sentences.says("FAULTS, likewise: 1 and 2 as there");
        Texts.faultyProgram("wait ^1234567;", 1);
        Texts.faultyProgram("again ^0000002{}", 1);
        Texts.faultyProgram("stamp ^#", 1);
        Texts.faultyProgram("^#", 1);
        Texts.faultyProgram("stamp \n ^", 2);
        Texts.faultyProgram("^waits 1;", 2);
        Texts.faultyProgram("^unknown;#", 2);
        Texts.faultyProgram("wait ^0;#", 4);
        Texts.faultyProgram(FORTY_LINES + "^#", 1);
    }

    static void s5_fault3A41stLine() {
        Sentences.says("3 a 41st LINE (at its WORD)");
        Texts.goodProgram(FORTY_LINES, 40);
        Texts.goodProgram("again 2{}".repeat(40), 40);
        Texts.goodProgram("again 2{" + "stamp;".repeat(39) + "}", 40);
        Texts.faultyProgram(FORTY_LINES + "^stamp;", 3);
        Texts.faultyProgram(FORTY_LINES + " ^wait", 3);
        Texts.faultyProgram(FORTY_LINES + "^again 1", 3);
        Texts.faultyProgram("again 2{" + "stamp;".repeat(39) + "}^stamp;", 3);
        Texts.faultyProgram("again 2{" + "stamp;".repeat(39) + "^stamp;}", 3);
        Texts.faultyProgram(FORTY_LINES + "^unknown;", 2);
        Texts.faultyProgram(FORTY_LINES + "^;", 2);
    }

    static void s5_fortyLinesAreRun() {
        Sentences.says("3 a 41st LINE (at its WORD)");
        LeapNet x = Nets.withProgram(1, "again 2{}".repeat(39) + "stamp;");
        dueRun(x, 4, 5, 0, 5, 0);
        dueKept(x, 5_000);
        LeapNet y = Nets.withProgram(1, "again 2{}".repeat(40));
        dueRun(y, 4, 5, 0, 5, 0);
        dueKept(y);
        LeapNet z = Nets.withProgram(1, "stamp;".repeat(39) + "wait 1;");
        dueRun(z, 4, 5, 0, 6, 0);
        Check.due(z, "39 stamps", z.ran(2), 39, 0);
    }

    static void s5_fault4ANumberThatCannotBe() {
        Sentences.says("4 a NUMBER that can't be: of wait 1 to 3,600, of until 0 to 23, 0 to 59, 0 to 59, of again 2 to 20");
        Texts.goodProgram("wait 1;wait 3600;", 2);
        Texts.faultyProgram("wait ^0;", 4);
        Texts.faultyProgram("wait ^3601;", 4);
        Texts.faultyProgram("wait ^999999", 4);
        Texts.goodProgram("until 0:0:0;until 23:59:59;", 2);
        Texts.faultyProgram("until ^24:0:0;", 4);
        Texts.faultyProgram("until 23:^60:0;", 4);
        Texts.faultyProgram("until 23:59:^60;", 4);
        Texts.faultyProgram("until ^999999", 4);
        Texts.goodProgram("again 2{}again 20{}", 2);
        Texts.faultyProgram("again ^0{}", 4);
        Texts.faultyProgram("again ^1{}", 4);
        Texts.faultyProgram("again ^21{}", 4);
    }

    static void s5_fault5AnAgainWithinThreeOthers() {
        Sentences.says("5 an again within three others.");
        Texts.goodProgram("again 2{again 2{again 2{}}}", 3);
        Texts.goodProgram("again 2{again 2{again 2{}again 2{}}again 2{again 2{}}}again 2{again 2{again 2{}}}", 9);
        Texts.faultyProgram("again 2{again 2{again 2{^again 2{}}}}", 5);
        Texts.faultyProgram("again 2{again 2{again 2{stamp;^again", 5);
        Texts.faultyProgram("again 2{again 2{again 2{}again 2{^again 2{}}}}", 5);
        // of one TOKEN the least kind
        Texts.faultyProgram("again 2{again 2{again 2{" + "stamp;".repeat(37) + "^again 2{}}}}", 3);
    }

    static void s5_waitTillItShowsAsMuchMoreOrFurther() {
        Sentences.says("wait: till the CLOCK SHOWS the thousandths more than now (a DAY counts 86,400,000) or further");
        LeapNet x = Nets.withProgram(1, "wait 1; stamp;");
        dueRun(x, 4, 0, 0, 1, 0);
        dueRun(x, 4, DAY - 1, 0, DAY, 0);
        dueKept(x, SHOWN);
        // up to the second more, in it, and over it
        dueRun(x, 0, 2 * DAY - 1, 0, 2 * DAY, 0);
        dueKept(x, SHOWN + 86_400_000);
        // from SECOND 86,400 to the next DAY's 0 nothing is more
        dueRun(x, 0, 2 * DAY, 0, 2 * DAY + 2, 1);
        dueKept(x, 2 * SHOWN + 1_000);
        // a CLOCK that repeats: the first that is a second more is the next DAY's 0
        dueRun(x, 1, 2 * DAY - 1, 0, 2 * DAY + 1, 1);
        dueKept(x, 2 * SHOWN);
        // a CLOCK that stops: 999 thousandths more are too few, 1 is too few
        dueRun(x, 2, 2 * DAY - 1, 0, 2 * DAY + 1, 1);
        dueRun(x, 2, 2 * DAY, 0, 2 * DAY + 2, 1);
        // a CLOCK that smears shows 999 thousandths more now and then
        dueRun(x, 3, DAY, 0, DAY + 2, 1);
        LeapNet y = Nets.withProgram(-1, "wait 1; stamp;");
        // further: the SECOND that would be it is not
        dueRun(y, 0, 2 * DAY - 2, 0, 2 * DAY - 1, 0);
        dueKept(y, 2 * SHOWN);
        LeapNet z = Nets.withProgram(-1, "wait 3600; stamp;");
        dueRun(z, 0, 2 * DAY - 3_000, 0, 2 * DAY + 599, -1);
        dueKept(z, 2 * SHOWN + 600_000);
    }

    static void s5_untilThatTimeOrFurtherAtOnceIfSo() {
        Sentences.says("until: till the thousandths of the DAY are those of the hour, minute and second, or further (at once, if so)");
        LeapNet x = Nets.withProgram(1, "until 1:2:3; stamp;");
        int at = 3_723;
        dueRun(x, 4, at - 1, 0, at, 0);
        dueKept(x, 3_723_000);
        dueRun(x, 4, at, 0, at, 0);
        dueRun(x, 4, at + 1, 0, at + 1, 0);
        dueKept(x, 3_724_000);
        dueRun(x, 4, DAY - 1, 0, DAY - 1, 0);
        // it SHOWS 3,722,956 in that SECOND
        dueRun(x, 3, DAY + at, 0, DAY + at + 1, 0);
        LeapNet y = Nets.withProgram(1, "until 0:0:0; stamp;");
        dueRun(y, 0, DAY - 1, 0, DAY - 1, 0);
        LeapNet z = Nets.withProgram(1, "until 23:59:59; stamp;");
        dueRun(z, 0, 2 * DAY, 0, 2 * DAY, 0);
        dueKept(z, SHOWN + 86_400_000);
        dueRun(z, 0, 2 * DAY - 4_000, 0, 2 * DAY - 1, 0);
        // a shorter DAY has no such SECOND, and the next DAY's comes too late
        LeapNet w = Nets.withProgram(-1, "until 23:59:59; stamp;");
        dueRun(w, 0, 2 * DAY - 2, 2, 2 * DAY + 4_998, 0);
    }

    static void s5_theFirst40AreKept() {
        Sentences.says("stamp: what is shown is kept (the first 40 are)");
        LeapNet x = Nets.withProgram(1, "again 20{stamp;wait 1;} again 19{stamp;} stamp;");
        dueRun(x, 4, 0, 0, 20, 0);
        Check.due(x, "forty", x.ran(2), 40, 0);
        Check.due(x, "the 1st", x.kept(0), 0, 0);
        Check.due(x, "the 20th", x.kept(19), 19_000, 0);
        Check.due(x, "the 40th", x.kept(39), 20_000, 0);
        Check.refused(x, "a 41st", x.kept(40), 8);
        LeapNet y = Nets.withProgram(1, "again 20{stamp;wait 1;stamp;} stamp;");
        dueRun(y, 4, 0, 0, 20, 0);
        Check.due(y, "the 40th", y.kept(39), 20_000, 0);
        Check.refused(y, "the 41st", y.kept(40), 8);
    }

    static void s5_parseOfTheSecondMore() {
        Sentences.says("parse: where 86,400,000 thousandths of a DAY are shown: refuse ends the RUN, "
            + "fold and take keep what is shown there, fold as the next DAY's 0; else (also refuse) it is kept as a stamp.");
        LeapNet x = Nets.withProgram(1, "parse take; parse fold; parse refuse; stamp;");
        long more = SHOWN + 86_400_000;
        dueRun(x, 0, 2 * DAY, 1, 2 * DAY, 0);
        dueKept(x, more, 2 * SHOWN);
        dueRun(x, 0, 2 * DAY - 1, 0, 2 * DAY - 1, 0);
        dueKept(x, more - 1_000, more - 1_000, more - 1_000, more - 1_000);
        dueRun(x, 0, 2 * DAY + 1, 0, 2 * DAY + 1, 0);
        dueKept(x, 2 * SHOWN, 2 * SHOWN, 2 * SHOWN, 2 * SHOWN);
        dueRun(x, 2, 2 * DAY, 0, 2 * DAY, 0);
        dueKept(x, more - 1, more - 1, more - 1, more - 1);
        dueRun(x, 4, 2 * DAY, 0, 2 * DAY, 0);
        dueKept(x, 2 * SHOWN, 2 * SHOWN, 2 * SHOWN, 2 * SHOWN);
    }

    static void s5_onlyWaitAndUntilTakeTime() {
        Sentences.says("All these take no time but wait and until, which go on COUNT by COUNT.");
        LeapNet x = Nets.withProgram(1, "again 20{again 20{again 20{stamp; parse take; until 0:0:0;}}} wait 1;");
        dueRun(x, 4, 7, 0, 8, 0);
        Check.due(x, "all that were kept", x.ran(2), 16_000, 0);
        // the COUNT at which a STEP lets the CLOCK SHOW enough is not passed over
        LeapNet y = Nets.withProgram(1, "wait 10; stamp;");
        y.leap(0, -1);
        y.leap(1, -1);
        y.step(4, 3 * DAY + 7);
        dueRun(y, 4, 3 * DAY, 0, 3 * DAY + 8, -2);
        dueKept(y, 3 * SHOWN + 10_000);
    }

    static void s5_againIsDoneSoManyTimes() {
        Sentences.says("or again NUMBER { {LINE} }");
        LeapNet x = Nets.withProgram(1, "again 2{stamp; wait 1;} again 20{wait 2;} stamp;");
        dueRun(x, 4, 0, 0, 42, 0);
        dueKept(x, 0, 1_000, 42_000);
        LeapNet y = Nets.withProgram(1, "again 3{again 2{wait 1;} again 4{wait 10;} stamp;}");
        dueRun(y, 4, 0, 0, 126, 0);
        dueKept(y, 42_000, 84_000, 126_000);
    }

    static void s5_everAtThe5000thCount() {
        Sentences.says("The RUN ends behind the last LINE, or by refuse, or it is for EVER: at the 5,000th COUNT behind its first.");
        LeapNet empty = Nets.withProgram(1, "");
        dueRun(empty, 4, 9, 0, 9, 0);
        dueKept(empty);
        LeapNet x = Nets.withProgram(1, "wait 3600; wait 1399; stamp;");
        dueRun(x, 4, 9, 0, 5_008, 0);
        LeapNet y = Nets.withProgram(1, "wait 3600; wait 1400; stamp;");
        dueRun(y, 4, 9, 0, 5_009, 0);
        dueKept(y, 5_009_000);
        LeapNet z = Nets.withProgram(1, "wait 3600; wait 1401; stamp;");
        dueRun(z, 4, 9, 2, 5_009, 0);
        dueKept(z);
        LeapNet w = Nets.withProgram(1, "until 1:23:20; stamp; until 1:23:21; stamp;");
        dueRun(w, 4, 1, 0, 5_001, 0);
        dueKept(w, 5_000_000, 5_001_000);
        dueRun(w, 4, 0, 2, 5_000, 0);
        dueKept(w, 5_000_000);
        LeapNet refused = Nets.withProgram(1, "wait 3600; wait 1400; parse refuse; stamp;");
        dueRun(refused, 0, 2 * DAY - 5_000, 1, 2 * DAY, 0);
        dueKept(refused);
        LeapNet late = Nets.withProgram(1, "wait 1; wait 3600; wait 1398; wait 1;");
        dueRun(late, 1, 2 * DAY - 1, 2, 2 * DAY + 4_999, 1);
    }

    static void s5_outcomeAndLate() {
        Sentences.says("OUTCOME: 0 done, 1 refused, 2 EVER; its COUNT; LATE: by how many seconds of COUNTS the waits were longer, "
            + "all together, than was told (below 0: shorter).");
        LeapNet x = Nets.withProgram(1, "wait 5; wait 5; until 0:0:30; wait 5; parse refuse;");
        dueRun(x, 4, 2 * DAY, 0, 2 * DAY + 35, 0);
        dueRun(x, 1, 2 * DAY - 3, 0, 2 * DAY + 36, 1);
        dueRun(x, 0, 2 * DAY - 15, 1, 2 * DAY, 0);
        LeapNet y = Nets.withProgram(-1, "wait 5; wait 5;");
        dueRun(y, 0, 2 * DAY - 3, 0, 2 * DAY + 6, -1);
        Check.due(y, "STATUS tells -1 from NONE", y.ran(1), -1, 0);
        // one is longer, another shorter: all together they are as told
        LeapNet z = Nets.withProgram(1, "wait 5; stamp; wait 5; stamp; wait 5; stamp;");
        z.leap(1, 0);
        z.leap(0, 1);
        z.leap(2, -1);
        z.step(4, 3 * DAY - 10);
        z.step(4, 3 * DAY + 2);
        Check.due(z, "it is stepped back", z.ahead(4, 3 * DAY - 10), -1, 0);
        Check.due(z, "it is stepped on", z.ahead(4, 3 * DAY + 2), 0, 0);
        dueRun(z, 4, 3 * DAY - 13, 0, 3 * DAY + 2, 0);
        dueKept(z, 2 * SHOWN + 86_392_000, 2 * SHOWN + 86_397_000, 3 * SHOWN + 2_000);
        // until is no wait
        LeapNet w = Nets.withProgram(1, "until 23:59:59; until 0:0:0;");
        dueRun(w, 3, 2 * DAY - 10, 0, 2 * DAY, 0);
    }
}
