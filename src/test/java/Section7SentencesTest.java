import java.util.ArrayList;
import java.util.List;
import java.util.function.Supplier;
import java.util.function.ToLongFunction;

/** Sentences of section 7: the STATUS of each call, and that a refused call changes nothing else. */
public final class Section7SentencesTest {
    private static final int DAY = 86_400;
    private static final int LAST_COUNT = 900_000_000;
    private static final int NOTICE_COUNT = 2_000;
    private static final int STAMP_COUNT = 2 * DAY;

    public static void main(String[] args) {
        Sentences.run(Section7SentencesTest.class);
    }

    /** A net that has something of all; its last TRAY is MISSING, and on its tape there is "a:1;". */
    private static LeapNet begun() {
        LeapNet x = new LeapNet();
        Check.fill(x, 0, 3, 0, 5, 86_400);
        Check.fill(x, 1, 3, 0, 5_000, 86_399_000);
        Check.fill(x, 2, 0, 7, 8);
        x.find(0, 1, 2);
        Check.fill(x, 1, 3, 10, 20, 90_000);
        x.answers(0, 1, 3);
        Check.fill(x, 1, 3, 10, 20, 30);
        x.leap(1, 1);
        x.leap(3, -1);
        x.server(1);
        x.server(4);
        for (int way = 0; way < 4; way++) {
            x.clock(way);
        }
        Check.rules(x, "believe:if stratum<9 then 1 else 0;", 0);
        x.notice(0, 1, 1, 1, 1_000);
        x.notice(1, 2, 1, 1, 1_000);
        x.notice(0, 1, 5, -1, NOTICE_COUNT);
        x.step(0, 3 * DAY);
        x.stamp(1, STAMP_COUNT - 1);
        x.stamp(1, STAMP_COUNT);
        Check.program(x, "stamp; wait 3; stamp;");
        x.run(1, 2 * DAY - 2);
        x.land(1, 60, 10, 20);
        Check.feed(x, "a:1;");
        return x;
    }

    /** A net that has as many of all as there may be. */
    private static LeapNet full() {
        LeapNet x = new LeapNet();
        for (int i = 0; i < 4; i++) {
            x.tray(i, 0, 1);
            Check.rules(x, "a:1;", 0);
        }
        for (int i = 0; i < 8; i++) {
            x.server(i);
        }
        for (int i = 0; i < 12; i++) {
            x.clock(i % 4);
        }
        for (int i = 0; i < 20; i++) {
            x.leap(i, 1);
        }
        for (int i = 0; i < 60; i++) {
            x.step(i % 12, 2 * DAY + i);
            x.notice(0, i % 12, i, 1, NOTICE_COUNT);
            x.stamp(i % 12, STAMP_COUNT);
        }
        Check.feed(x, "a:1;" + " ".repeat(496));
        return x;
    }

    /** All that a net tells, by calls that change nothing. */
    private static List<Long> told(LeapNet x) {
        List<Long> all = new ArrayList<>();
        for (int i = 0; i < 4; i++) {
            for (int k = 0; k < 4; k++) {
                all.add(x.read(i, k));
                all.add((long) x.status());
                all.add(x.kept(i * 4 + k));
            }
            all.add((long) x.local(i, 15 * DAY));
            all.add((long) x.oft(i, 20, 130));
            all.add((long) x.lies(i));
            all.add((long) x.ran(i));
            all.add((long) x.blamed(i));
            all.add((long) x.span(i));
        }
        for (int day = 0; day < 6; day++) {
            all.add((long) x.civil(day * DAY, 0));
            all.add((long) x.civil(day * DAY, 1));
            all.add((long) x.count(day, 86_400));
        }
        for (int clock : new int[] {0, 1, 2, 3, 4, 11}) {
            for (int count : new int[] {2 * DAY, 3 * DAY, 9 * DAY}) {
                all.add(x.shows(clock, count));
                all.add((long) x.ahead(clock, count));
            }
            all.add((long) x.misses(clock));
            all.add((long) x.table(clock, 1));
        }
        for (int notice : new int[] {0, 1, 2, 3, 59}) {
            for (int what = 0; what < 4; what++) {
                all.add((long) x.told(notice, what));
            }
        }
        all.add((long) x.wrong());
        all.add((long) x.ask());
        return all;
    }

    /** What a net tells of its tape and of FAULTS, the first by changing it. */
    private static List<Long> toldOfTexts(LeapNet x) {
        List<Long> all = new ArrayList<>();
        all.add((long) x.fault(0));
        all.add((long) x.fault(1));
        all.add((long) x.feed(0, 0, 0, 0, 0));
        all.add((long) x.rules(4, 0));
        all.add((long) x.program(4));
        all.add((long) x.fault(0));
        all.add((long) x.fault(1));
        return all;
    }

    /** How many more of all the net takes, and by which numbers. */
    private static List<Long> taken(LeapNet x) {
        List<Long> all = new ArrayList<>();
        all.add((long) x.clock(0));
        all.add((long) x.server(0));
        all.add((long) x.notice(0, 0, 7, 1, NOTICE_COUNT - 1));
        all.add((long) x.notice(0, 0, 7, 1, NOTICE_COUNT));
        all.add((long) x.stamp(0, STAMP_COUNT - 1));
        all.add((long) x.stamp(0, STAMP_COUNT));
        for (int i = 0; i < 61; i++) {
            all.add(x.step(0, 9 * DAY) ? 1L : 0L);
        }
        for (int i = 0; i < 21; i++) {
            all.add(x.leap(500 + i, 1) ? 1L : 0L);
        }
        for (int i = 0; i < 5; i++) {
            all.add((long) x.rules(0, 0));
        }
        all.add((long) x.run(0, 5));
        all.add((long) x.ran(2));
        return all;
    }

    /** A call that is refused: what it answers then, and by which STATUS. */
    private record Refusal(String call, ToLongFunction<LeapNet> calling, long due, int status) {
    }

    private static Refusal none(int status, String call, ToLongFunction<LeapNet> calling) {
        return new Refusal(call, calling, LeapNet.NONE, status);
    }

    private static Refusal no(int status, String call, java.util.function.Predicate<LeapNet> calling) {
        return new Refusal(call, x -> calling.test(x) ? 1 : 0, 0, status);
    }

    private static void dueRefused(Supplier<LeapNet> state, List<Refusal> refusals) {
        List<Long> toldOfOne = told(state.get());
        List<Long> toldOfAnother = toldOfTexts(state.get());
        List<Long> takenByOne = taken(state.get());
        for (Refusal refusal : refusals) {
            LeapNet x = state.get();
            long got = refusal.calling.applyAsLong(x);
            Check.due(x, refusal.call, got, refusal.due, refusal.status);
            Check.due(refusal.call + " changes nothing", told(x).equals(toldOfOne), true);
            LeapNet y = state.get();
            refusal.calling.applyAsLong(y);
            Check.due(refusal.call + " changes no tape", toldOfTexts(y).equals(toldOfAnother), true);
            LeapNet z = state.get();
            refusal.calling.applyAsLong(z);
            Check.due(refusal.call + " takes no room", taken(z).equals(takenByOne), true);
        }
    }

    static void s7_1NoSuchTrayOrSort() {
        Sentences.says("1 no such TRAY (or sort).");
        List<Refusal> refusals = new ArrayList<>();
        for (int tray : new int[] {-1, 4}) {
            refusals.add(no(1, "tray", x -> x.tray(tray, 0, 1)));
            refusals.add(no(1, "a sort", x -> x.tray(0, tray, 1)));
            refusals.add(no(1, "write", x -> x.write(tray, 0, 1)));
            refusals.add(none(1, "read", x -> x.read(tray, 0)));
            refusals.add(no(1, "pour from", x -> x.pour(tray, 0, 0, 0, 1)));
            refusals.add(no(1, "pour to", x -> x.pour(0, 0, tray, 0, 1)));
            refusals.add(none(1, "answers", x -> x.answers(tray, 0, 1)));
            refusals.add(none(1, "answers", x -> x.answers(0, tray, 1)));
            refusals.add(none(1, "find", x -> x.find(tray, 0, 1)));
            refusals.add(none(1, "find", x -> x.find(0, tray, 1)));
        }
        dueRefused(Section7SentencesTest::begun, refusals);
    }

    static void s7_2NoSuchClockServerNoticeLand() {
        Sentences.says("2 no such CLOCK, SERVER, NOTICE, STAMP, LAND.");
        List<Refusal> refusals = new ArrayList<>();
        for (int number : new int[] {-1, 4, Integer.MAX_VALUE}) {
            refusals.add(no(2, "step", x -> x.step(number, 0)));
            refusals.add(none(2, "shows", x -> x.shows(number, 0)));
            refusals.add(none(2, "ahead", x -> x.ahead(number, 0)));
            refusals.add(none(2, "off", x -> x.off(number, 0, 0)));
            refusals.add(none(2, "off of r", x -> x.off(0, number, 0)));
            refusals.add(none(2, "a NOTICE's SERVER", x -> x.notice(number == 4 ? 2 : number, 0, 1, 1, NOTICE_COUNT)));
            refusals.add(none(2, "a NOTICE's CLOCK", x -> x.notice(0, number, 1, 1, NOTICE_COUNT)));
            refusals.add(none(2, "told", x -> x.told(number == 4 ? 3 : number, 0)));
            refusals.add(none(2, "table", x -> x.table(number, 0)));
            refusals.add(none(2, "misses", x -> x.misses(number)));
            refusals.add(none(2, "stamp", x -> x.stamp(number, STAMP_COUNT)));
            refusals.add(none(2, "run", x -> x.run(number, 0)));
            refusals.add(no(2, "land", x -> x.land(number, 0, 0, 0)));
            refusals.add(none(2, "local", x -> x.local(number, 0)));
            refusals.add(none(2, "oft", x -> x.oft(number, 1, 0)));
        }
        dueRefused(Section7SentencesTest::begun, refusals);
    }

    static void s7_3TheTrayIsMissing() {
        Sentences.says("3 the TRAY is MISSING.");
        dueRefused(Section7SentencesTest::begun, List.of(
            no(3, "write", x -> x.write(3, 0, 1)),
            none(3, "read", x -> x.read(3, 0)),
            no(3, "pour from", x -> x.pour(3, 0, 0, 0, 1)),
            no(3, "pour to", x -> x.pour(0, 0, 3, 0, 1)),
            none(3, "answers", x -> x.answers(3, 0, 1)),
            none(3, "answers", x -> x.answers(0, 3, 1)),
            none(3, "find", x -> x.find(3, 0, 1)),
            none(3, "find", x -> x.find(0, 3, 1))));
    }

    static void s7_4APlaceThatTheTrayHasNot() {
        Sentences.says("4 a place that the TRAY has not, or too few numbers.");
        dueRefused(Section7SentencesTest::begun, List.of(
            no(4, "write below", x -> x.write(0, -1, 1)),
            no(4, "write above", x -> x.write(0, 3, 1)),
            none(4, "read below", x -> x.read(0, -1)),
            none(4, "read above", x -> x.read(0, 3)),
            no(4, "pour from below", x -> x.pour(0, -1, 1, 0, 1)),
            no(4, "pour to below", x -> x.pour(0, 0, 1, -1, 1)),
            no(4, "pour from above", x -> x.pour(0, 3, 1, 0, 1)),
            no(4, "pour to above", x -> x.pour(0, 0, 1, 3, 1)),
            no(4, "pour too many", x -> x.pour(0, 0, 1, 0, 4)),
            none(4, "answers of too few", x -> x.answers(0, 1, 4)),
            none(4, "answers of too few in the first", x -> x.answers(2, 0, 3)),
            none(4, "answers of too few in the second", x -> x.answers(0, 2, 3)),
            none(4, "find of too few in the first", x -> x.find(2, 0, 3)),
            none(4, "find of too few in the second", x -> x.find(0, 2, 3))));
    }

    static void s7_5ANumberThatCannotBe() {
        Sentences.says("5 a number that can't be (a COUNT, a DAY, too).");
        List<Refusal> refusals = new ArrayList<>();
        for (int count : new int[] {-1, LAST_COUNT + 1}) {
            refusals.add(none(5, "civil", x -> x.civil(count, 0)));
            refusals.add(no(5, "step", x -> x.step(0, count)));
            refusals.add(none(5, "shows", x -> x.shows(0, count)));
            refusals.add(none(5, "ahead", x -> x.ahead(0, count)));
            refusals.add(none(5, "off", x -> x.off(0, 1, count)));
            refusals.add(none(5, "worst", x -> x.worst(count, count, 0)));
            refusals.add(none(5, "notice", x -> x.notice(0, 0, 1, 1, count)));
            refusals.add(none(5, "stamp", x -> x.stamp(0, count)));
            refusals.add(none(5, "run", x -> x.run(0, count)));
            refusals.add(none(5, "local", x -> x.local(0, count)));
        }
        for (int day : new int[] {-1, 10_000}) {
            refusals.add(no(5, "leap", x -> x.leap(day, 1)));
            refusals.add(none(5, "count", x -> x.count(day, 0)));
            refusals.add(none(5, "rules", x -> x.rules(4, day)));
            refusals.add(none(5, "notice", x -> x.notice(0, 0, day, 1, NOTICE_COUNT)));
            refusals.add(none(5, "table", x -> x.table(0, day)));
            refusals.add(none(5, "oft", x -> x.oft(0, day, 0)));
        }
        refusals.addAll(otherNumbers());
        dueRefused(Section7SentencesTest::begun, refusals);
    }

    private static List<Refusal> otherNumbers() {
        return List.of(
            no(5, "tray", x -> x.tray(0, 0, 41)),
            no(5, "a kind", x -> x.leap(5, 2)),
            no(5, "a kind below", x -> x.leap(5, -2)),
            none(5, "civil what", x -> x.civil(0, 2)),
            none(5, "a SECOND", x -> x.count(0, 86_401)),
            none(5, "a WAY", x -> x.clock(4)),
            none(5, "worst, from behind to", x -> x.worst(6, 5, 0)),
            none(5, "worst, too far", x -> x.worst(5, 2_006, 0)),
            none(5, "worst what", x -> x.worst(5, 6, 2)),
            none(5, "rules of more than the tape", x -> x.rules(21, 0)),
            none(5, "rules of less than none", x -> x.rules(-1, 0)),
            none(5, "a STRATUM", x -> x.server(16)),
            none(5, "a NOTICE's kind", x -> x.notice(0, 0, 1, 0, NOTICE_COUNT)),
            none(5, "told what", x -> x.told(0, 4)),
            none(5, "blamed what", x -> x.blamed(3)),
            none(5, "program of more than the tape", x -> x.program(21)),
            none(5, "program of less than none", x -> x.program(-1)),
            none(5, "run", x -> x.run(0, 899_990_001)),
            none(5, "ran what", x -> x.ran(3)),
            none(5, "no ANSWERS", x -> x.answers(0, 1, 0)),
            none(5, "too many ANSWERS", x -> x.answers(0, 1, 13)),
            none(5, "an ANSWER", x -> x.answers(1, 0, 1)),
            none(5, "span what", x -> x.span(2)),
            none(5, "none SEEN", x -> x.find(0, 1, 0)),
            none(5, "too many SEEN", x -> x.find(0, 1, 21)),
            no(5, "an OFFSET", x -> x.land(1, 841, 0, 0)),
            no(5, "from behind to", x -> x.land(1, 0, 6, 5)),
            no(5, "a DAY of the year", x -> x.land(1, 0, 5, 365)),
            none(5, "a minute", x -> x.oft(1, 1, 1_440)));
    }

    static void s7_6Below0() {
        Sentences.says("6 below 0 (a TRAY's length).");
        dueRefused(Section7SentencesTest::begun, List.of(
            no(6, "tray", x -> x.tray(0, 0, -1)),
            no(6, "tray, the least", x -> x.tray(3, 3, Integer.MIN_VALUE)),
            no(6, "pour", x -> x.pour(0, 0, 1, 0, -1)),
            no(6, "pour, the least", x -> x.pour(0, 0, 0, 0, Integer.MIN_VALUE))));
    }

    static void s7_7OneTooMany() {
        Sentences.says("7 one too many.");
        dueRefused(Section7SentencesTest::full, List.of(
            no(7, "leap", x -> x.leap(20, 1)),
            none(7, "clock", x -> x.clock(0)),
            no(7, "step", x -> x.step(0, 0)),
            none(7, "rules", x -> x.rules(4, 0)),
            none(7, "server", x -> x.server(0)),
            none(7, "notice", x -> x.notice(0, 0, 1, 1, NOTICE_COUNT)),
            none(7, "stamp", x -> x.stamp(0, STAMP_COUNT))));
    }

    static void s7_8ThereIsNone() {
        Sentences.says("8 there is none.");
        dueRefused(LeapNet::new, List.of(
            none(8, "worst", x -> x.worst(0, 0, 0)),
            none(8, "ran", x -> x.ran(0)),
            none(8, "kept", x -> x.kept(0)),
            none(8, "span", x -> x.span(0)),
            none(8, "lies", x -> x.lies(0)),
            none(8, "ask", x -> x.ask())));
        dueRefused(Section7SentencesTest::full, List.of(
            none(8, "run", x -> x.run(0, 0)),
            none(8, "ran", x -> x.ran(2)),
            none(8, "ask", x -> x.ask())));
        dueRefused(Section7SentencesTest::begun, List.of(
            none(8, "kept(2)", x -> x.kept(2)),
            none(8, "kept(-1)", x -> x.kept(-1)),
            none(8, "lies(3)", x -> x.lies(3)),
            none(8, "lies(-1)", x -> x.lies(-1))));
    }

    static void s7_9ItCannotBe() {
        Sentences.says("9 it can't be.");
        dueRefused(Section7SentencesTest::begun, List.of(
            none(9, "a SECOND 86,400", x -> x.count(0, 86_400)),
            none(9, "a SECOND 86,399 of a shorter DAY", x -> x.count(3, 86_399)),
            none(9, "a SECOND 86,400 of a shorter DAY", x -> x.count(3, 86_400))));
    }

    static void s7_10AFaultTakesTheTapeAndIsTold() {
        Sentences.says("changes nothing but STATUS (but a TEXT with a FAULT the tape, and what fault() tells)");
        List<Long> toldOfOne = told(begun());
        List<Long> takenByOne = taken(begun());
        List<ToLongFunction<LeapNet>> faulty = List.of(x -> x.rules(3, 0), x -> x.program(4));
        for (ToLongFunction<LeapNet> calling : faulty) {
            LeapNet x = begun();
            Check.refused(x, "a FAULT", calling.applyAsLong(x), 10);
            Check.due("a FAULT changes nothing else", told(x).equals(toldOfOne), true);
            Check.due("the tape is empty", x.feed(0, 0, 0, 0, 0), 20);
            LeapNet y = begun();
            calling.applyAsLong(y);
            Check.due("a FAULT takes no room, and the old PROGRAM stays", taken(y).equals(takenByOne), true);
        }
        LeapNet x = begun();
        x.rules(3, 0);
        Texts.dueFault(x, "\"a:1\"", 2, 3);
        LeapNet y = begun();
        y.program(4);
        Texts.dueFault(y, "\"a:1;\" as a PROGRAM", 2, 0);
    }

    static void s7_11TraysOfUnlikeSorts() {
        Sentences.says("11 TRAYS of unlike sorts.");
        dueRefused(Section7SentencesTest::begun, List.of(
            no(11, "pour from 64 bits to 8", x -> x.pour(0, 0, 2, 0, 1)),
            no(11, "pour from 8 bits to 64", x -> x.pour(2, 0, 0, 0, 1)),
            no(11, "pour none", x -> x.pour(2, 0, 0, 0, 0))));
    }

    static void s7_12ACountThatIsGone() {
        Sentences.says("12 a COUNT that is gone.");
        dueRefused(Section7SentencesTest::begun, List.of(
            none(12, "notice", x -> x.notice(0, 0, 1, 1, NOTICE_COUNT - 1)),
            none(12, "notice at 0", x -> x.notice(0, 0, 1, 1, 0)),
            none(12, "stamp", x -> x.stamp(0, STAMP_COUNT - 1)),
            none(12, "stamp at 0", x -> x.stamp(0, 0))));
    }

    /** Each call with arguments of which several are wrong at once; pour(), answers() and find() have orders of their own. */
    static void s7_theFirstOfTheseThatHolds() {
        Sentences.says("STATUS of a call is the first of these that holds");
        dueRefused(LeapNet::new, List.of(
            no(1, "tray: 1, 5", x -> x.tray(4, 0, 41)),
            no(1, "tray: 1, 6", x -> x.tray(0, 4, -1)),
            no(1, "write: 1, 4", x -> x.write(-1, -1, 0)),
            no(3, "write: 3, 4", x -> x.write(0, -1, 0)),
            none(1, "read: 1, 4", x -> x.read(4, 40)),
            none(3, "read: 3, 4", x -> x.read(0, 40)),
            none(5, "count: 5, 9", x -> x.count(10_000, 86_400)),
            no(2, "step: 2, 5", x -> x.step(0, -1)),
            none(2, "shows: 2, 5", x -> x.shows(0, -1)),
            none(2, "ahead: 2, 5", x -> x.ahead(0, -1)),
            none(2, "off: 2, 5", x -> x.off(0, 0, -1)),
            none(5, "worst: 5, 8", x -> x.worst(-1, 0, 0)),
            none(2, "notice: 2, 5", x -> x.notice(0, 0, -1, 0, -1)),
            none(2, "told: 2, 5", x -> x.told(0, 4)),
            none(2, "table: 2, 5", x -> x.table(0, -1)),
            none(2, "stamp: 2, 5", x -> x.stamp(0, -1)),
            none(2, "run: 2, 5, 8", x -> x.run(0, -1)),
            none(5, "ran: 5, 8", x -> x.ran(3)),
            none(5, "span: 5, 8", x -> x.span(2)),
            no(2, "land: 2, 5", x -> x.land(4, -721, 0, 0)),
            none(2, "local: 2, 5", x -> x.local(4, -1)),
            none(2, "oft: 2, 5", x -> x.oft(4, 0, 0))));
        dueRefused(Section7SentencesTest::full, List.of(
            no(5, "leap: 5, 7", x -> x.leap(20, 2)),
            none(5, "clock: 5, 7", x -> x.clock(4)),
            no(2, "step: 2, 5, 7", x -> x.step(12, -1)),
            no(5, "step: 5, 7", x -> x.step(0, -1)),
            none(5, "rules: 5, 7", x -> x.rules(501, 0)),
            none(7, "rules: 7, 10", x -> x.rules(1, 0)),
            none(5, "server: 5, 7", x -> x.server(16)),
            none(2, "notice: 2, 7, 12", x -> x.notice(8, 0, 1, 1, 0)),
            none(5, "notice: 5, 7, 12", x -> x.notice(0, 0, 1, 0, 0)),
            none(7, "notice: 7, 12", x -> x.notice(0, 0, 1, 1, 0)),
            none(2, "stamp: 2, 7, 12", x -> x.stamp(12, 0)),
            none(5, "stamp: 5, 7, 12", x -> x.stamp(0, -1)),
            none(7, "stamp: 7, 12", x -> x.stamp(0, 0)),
            none(5, "run: 5, 8", x -> x.run(0, 899_990_001)),
            none(5, "program: 5, 10", x -> x.program(501))));
    }

    static void s7_0Else() {
        Sentences.says("0 else.");
        List<ToLongFunction<LeapNet>> good = List.of(
            x -> x.tray(0, 0, 1) ? 1 : 0, x -> x.write(0, 0, 1) ? 1 : 0, x -> x.read(0, 0), x -> x.pour(0, 0, 0, 0, 1) ? 1 : 0,
            x -> x.leap(0, 0) ? 1 : 0, x -> x.civil(0, 0), x -> x.count(0, 0), x -> x.clock(0), x -> x.step(0, 0) ? 1 : 0,
            x -> x.shows(0, 0), x -> x.ahead(0, 0), x -> x.off(0, 1, 0), x -> x.worst(0, 0, 0), x -> x.rules(4, 0),
            x -> x.server(0), x -> x.notice(0, 0, 1, 1, LAST_COUNT), x -> x.told(0, 0), x -> x.table(0, 0), x -> x.misses(0),
            x -> x.stamp(0, LAST_COUNT), x -> x.wrong(), x -> x.blamed(0), x -> x.program(0), x -> x.run(0, 0), x -> x.ran(0),
            x -> x.kept(0), x -> x.answers(0, 1, 1), x -> x.span(0), x -> x.lies(0), x -> x.find(0, 1, 1),
            x -> x.land(0, 0, 0, 0) ? 1 : 0, x -> x.local(0, 0), x -> x.oft(0, 1, 0));
        for (int i = 0; i < good.size(); i++) {
            LeapNet x = begun();
            x.civil(-1, 0);
            Check.due("good call " + i + " is taken", good.get(i).applyAsLong(x) >= 0, true);
            Check.due("STATUS of good call " + i, x.status(), 0);
        }
        LeapNet asked = begun();
        asked.tray(0, 0, 1);
        asked.find(0, 0, 1);
        asked.civil(-1, 0);
        Check.due(asked, "ask()", asked.ask(), 86_400, 0);
    }

    static void s7_callsThatHaveNoStatus() {
        Sentences.says("status(), fault(), feed() have none.");
        LeapNet x = begun();
        for (int status : new int[] {5, 0}) {
            x.civil(status == 5 ? -1 : 0, 0);
            Check.due("status()", x.status(), status);
            Check.due("status() again", x.status(), status);
            x.fault(0);
            Check.due("behind fault(0)", x.status(), status);
            Check.due("fault(2)", x.fault(2), LeapNet.NONE);
            Check.due("behind fault(2)", x.status(), status);
            x.feed(1, 2, 3, 4, 5);
            Check.due("behind feed()", x.status(), status);
        }
        LeapNet y = full();
        y.civil(-1, 0);
        Check.due("feed() beyond 500", y.feed(1, 2, 3, 4, 5), LeapNet.NONE);
        Check.due("behind feed() beyond 500", y.status(), 5);
    }

    static void s7_feedBeyond500ChangesNothing() {
        Sentences.says("changes nothing but STATUS");
        LeapNet x = new LeapNet();
        Check.feed(x, "a:1;" + " ".repeat(496));
        Check.due("feed() beyond 500", x.feed(0x23232323, 0, 0, 0, 0), LeapNet.NONE);
        Check.due(x, "the tape is as it was", x.rules(500, 0), 1, 0);
    }
}
