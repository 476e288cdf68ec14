import java.util.ArrayList;

/** A net of clocks that are told of longer and shorter days; DOC.md says what each call promises. */
public final class LeapNet {
    public static final int NONE = -1;

    private static final int FINE = 0;
    private static final int NO_TRAY = 1;
    private static final int NO_SUCH = 2;
    private static final int MISSING = 3;
    private static final int NO_PLACE = 4;
    private static final int BAD_NUMBER = 5;
    private static final int BELOW_ZERO = 6;
    private static final int TOO_MANY = 7;
    private static final int NOTHING = 8;
    private static final int CANNOT_BE = 9;
    private static final int FAULTY = 10;
    private static final int UNLIKE_SORTS = 11;
    private static final int GONE = 12;

    private static final int MOST_TRAYS = 4;
    private static final int MOST_NUMBERS = 40;
    private static final int MOST_LEAPS = 20;
    private static final int MOST_CLOCKS = 12;
    private static final int MOST_STEPS = 60;
    private static final int MOST_SERVERS = 8;
    private static final int MOST_NOTICES = 60;
    private static final int MOST_TEXTS = 4;
    private static final int MOST_STAMPS = 60;
    private static final int MOST_ANSWERS = 12;
    private static final int MOST_SEEN = 20;
    private static final int MOST_LANDS = 4;
    private static final int TAPE_ROOM = 500;

    private static final int LAST_COUNT = 900_000_000;
    private static final int LAST_RUN_COUNT = 899_990_000;
    private static final int LAST_DAY = 9_999;
    private static final int LAST_STRATUM = 15;
    private static final int LONGEST_WATCH = 2_000;
    private static final int WIDEST_ANSWER = 1_000_000;
    private static final int DAY_SECONDS = 86_400;
    private static final long DAY_THOUSANDTHS = 86_400_000L;
    private static final long SHOWN_DAY = 100_000_000L;
    private static final int DAY_MINUTES = 1_440;
    private static final int YEAR_DAYS = 365;

    private static final int WAY_TELLS = 0;
    private static final int WAY_REPEATS = 1;
    private static final int WAY_STOPS = 2;
    private static final int WAY_SMEARS = 3;
    private static final int WAY_GOES_ON = 4;

    private int status;
    private final Tray[] trays;
    private final byte[] tape;
    private int taped;
    private int faultKind;
    private int faultPlace;
    private final Table truth;
    private final ArrayList<Clock> clocks;
    private int stepsTold;
    private final ArrayList<Integer> strata;
    private final ArrayList<Notice> notices;
    private final ArrayList<Rule> texts;
    private final ArrayList<Stamp> stamps;
    private Program program;
    private final Run latestRun;
    private Answers latestAnswers;
    private int foundWays;
    private final Land[] lands;
    private boolean stale;

    public LeapNet() {
        status = FINE;
        trays = new Tray[MOST_TRAYS];
        tape = new byte[TAPE_ROOM];
        faultKind = NONE;
        faultPlace = NONE;
        truth = new Table(MOST_LEAPS);
        clocks = new ArrayList<>();
        strata = new ArrayList<>();
        notices = new ArrayList<>();
        texts = new ArrayList<>();
        stamps = new ArrayList<>();
        latestRun = new Run();
        foundWays = NONE;
        lands = new Land[MOST_LANDS];
        for (int i = 0; i < MOST_LANDS; i++) {
            lands[i] = new Land(0, 0, 0);
        }
    }

    public int status() {
        return status;
    }

    // ---- TRAYS

    public boolean tray(int tray, int sort, int many) {
        status = newTrayStatus(tray, sort, many);
        if (status != FINE) {
            return false;
        }
        trays[tray] = new Tray(sort, many);
        return true;
    }

    public boolean write(int tray, int place, long v) {
        status = placeStatus(tray, place);
        if (status != FINE) {
            return false;
        }
        trays[tray].put(place, v);
        return true;
    }

    public long read(int tray, int place) {
        status = placeStatus(tray, place);
        return status == FINE ? trays[tray].at(place) : NONE;
    }

    public boolean pour(int tray, int i, int to, int j, int many) {
        status = pourStatus(tray, i, to, j, many);
        if (status != FINE) {
            return false;
        }
        System.arraycopy(trays[tray].numbers, i, trays[to].numbers, j, many);
        return true;
    }

    private static int newTrayStatus(int tray, int sort, int many) {
        if (!isTray(tray) || sort < 0 || sort > 3) {
            return NO_TRAY;
        }
        if (many > MOST_NUMBERS) {
            return BAD_NUMBER;
        }
        return many < 0 ? BELOW_ZERO : FINE;
    }

    private int placeStatus(int tray, int place) {
        if (!isTray(tray)) {
            return NO_TRAY;
        }
        if (trays[tray] == null) {
            return MISSING;
        }
        return place >= 0 && place < trays[tray].size() ? FINE : NO_PLACE;
    }

    private int pourStatus(int tray, int i, int to, int j, int many) {
        if (!isTray(tray) || !isTray(to)) {
            return NO_TRAY;
        }
        if (trays[tray] == null || trays[to] == null) {
            return MISSING;
        }
        if (trays[tray].sort != trays[to].sort) {
            return UNLIKE_SORTS;
        }
        if (many < 0) {
            return BELOW_ZERO;
        }
        return trays[tray].hasRow(i, many) && trays[to].hasRow(j, many) ? FINE : NO_PLACE;
    }

    private static boolean isTray(int tray) {
        return tray >= 0 && tray < MOST_TRAYS;
    }

    // ---- the TRUE TABLE, civil times

    public boolean leap(int day, int kind) {
        status = leapStatus(day, kind);
        if (status != FINE) {
            return false;
        }
        truth.tell(day, kind);
        stale = true;
        return true;
    }

    public int civil(int count, int what) {
        status = isCount(count) && isWithin(what, 0, 1) ? FINE : BAD_NUMBER;
        if (status != FINE) {
            return NONE;
        }
        truth.turnTo(count);
        return what == 0 ? truth.day : truth.second;
    }

    public int count(int day, int second) {
        status = countStatus(day, second);
        return status == FINE ? (int) (truth.startOf(day) + second) : NONE;
    }

    private int leapStatus(int day, int kind) {
        if (!isDay(day) || !isWithin(kind, -1, 1)) {
            return BAD_NUMBER;
        }
        boolean adds = kind != 0 && truth.kindOf(day) == 0;
        return adds && truth.isFull() ? TOO_MANY : FINE;
    }

    private int countStatus(int day, int second) {
        if (!isDay(day) || !isWithin(second, 0, DAY_SECONDS) || truth.startOf(day) + second > LAST_COUNT) {
            return BAD_NUMBER;
        }
        return second < truth.lengthOf(day) ? FINE : CANNOT_BE;
    }

    private static boolean isWithin(int number, int least, int greatest) {
        return number >= least && number <= greatest;
    }

    private static boolean isCount(int count) {
        return isWithin(count, 0, LAST_COUNT);
    }

    private static boolean isDay(int day) {
        return isWithin(day, 0, LAST_DAY);
    }

    // ---- CLOCKS

    public int clock(int way) {
        status = moreStatus(isWithin(way, WAY_TELLS, WAY_SMEARS), clocks.size(), MOST_CLOCKS);
        if (status != FINE) {
            return NONE;
        }
        clocks.add(new Clock(way));
        return clocks.size() - 1;
    }

    public boolean step(int clock, int count) {
        status = isClock(clock) ? moreStatus(isCount(count), stepsTold, MOST_STEPS) : NO_SUCH;
        if (status != FINE) {
            return false;
        }
        clocks.get(clock).addStep(count);
        stepsTold++;
        stale = true;
        return true;
    }

    public long shows(int clock, int count) {
        status = clockCountStatus(clock, count);
        if (status != FINE) {
            return NONE;
        }
        settle();
        return clocks.get(clock).shownAt(count);
    }

    public int ahead(int clock, int count) {
        status = clockCountStatus(clock, count);
        if (status != FINE) {
            return NONE;
        }
        settle();
        return clocks.get(clock).leadAt(count);
    }

    public long off(int clock, int r, int count) {
        status = isClock(r) ? clockCountStatus(clock, count) : NO_SUCH;
        if (status != FINE) {
            return NONE;
        }
        settle();
        return thousandthsInAll(clocks.get(clock).shownAt(count)) - thousandthsInAll(clocks.get(r).shownAt(count));
    }

    public long worst(int from, int to, int what) {
        status = worstStatus(from, to, what);
        if (status != FINE) {
            return NONE;
        }
        settle();
        long greatest = NONE;
        int when = from;
        for (int count = from; count <= to; count++) {
            long size = spreadAt(count);
            if (size > greatest) {
                greatest = size;
                when = count;
            }
        }
        return what == 0 ? greatest : when;
    }

    /** One more of what there may be so many of. */
    private static int moreStatus(boolean numberIsGood, int many, int most) {
        if (!numberIsGood) {
            return BAD_NUMBER;
        }
        return many >= most ? TOO_MANY : FINE;
    }

    private boolean isClock(int clock) {
        return clock >= 0 && clock < clocks.size();
    }

    private int clockCountStatus(int clock, int count) {
        if (!isClock(clock)) {
            return NO_SUCH;
        }
        return isCount(count) ? FINE : BAD_NUMBER;
    }

    private int worstStatus(int from, int to, int what) {
        if (!isCount(from) || !isCount(to) || from > to || to - from > LONGEST_WATCH || !isWithin(what, 0, 1)) {
            return BAD_NUMBER;
        }
        return clocks.size() < 2 ? NOTHING : FINE;
    }

    /** The greatest OFF of any two CLOCKS is that of the foremost against the hindmost. */
    private long spreadAt(int count) {
        long least = 0;
        long greatest = 0;
        for (int i = 0; i < clocks.size(); i++) {
            long at = thousandthsInAll(clocks.get(i).shownAt(count));
            least = i == 0 ? at : Math.min(least, at);
            greatest = i == 0 ? at : Math.max(greatest, at);
        }
        return greatest - least;
    }

    private static long thousandthsInAll(long shown) {
        return shown / SHOWN_DAY * DAY_THOUSANDTHS + shown % SHOWN_DAY;
    }

    private static long thousandthsShown(int way, int second, int kind) {
        if (way == WAY_SMEARS && kind > 0) {
            return DAY_THOUSANDTHS * second / (DAY_SECONDS + 1);
        }
        if (way == WAY_SMEARS && kind < 0) {
            return DAY_THOUSANDTHS * second / (DAY_SECONDS - 1);
        }
        if (second < DAY_SECONDS || way == WAY_TELLS) {
            return 1000L * second;
        }
        if (way == WAY_REPEATS) {
            return DAY_THOUSANDTHS - 1000;
        }
        return way == WAY_STOPS ? DAY_THOUSANDTHS - 1 : 0;
    }

    /**
     * What is BELIEVED, each CLOCK's TABLE and its STEPS hang on the whole state, on what was told later too:
     * they are worked out anew when something of it has changed.
     */
    private void settle() {
        if (!stale) {
            return;
        }
        for (int i = 0; i < clocks.size(); i++) {
            clocks.get(i).table.clear();
        }
        for (int i = 0; i < notices.size(); i++) {
            Notice notice = notices.get(i);
            notice.inTime = notice.count < truth.startOf(notice.day + 1);
            notice.believed = isBelieved(i);
            if (notice.governs()) {
                clocks.get(notice.clock).table.tell(notice.day, notice.kind);
            }
        }
        for (int i = 0; i < clocks.size(); i++) {
            clocks.get(i).reckonSteps(truth);
        }
        stale = false;
    }

    // ---- RULES, NOTICES

    public int feed(int a, int b, int c, int d, int e) {
        if (taped + 20 > TAPE_ROOM) {
            return NONE;
        }
        feedOne(a);
        feedOne(b);
        feedOne(c);
        feedOne(d);
        feedOne(e);
        return taped;
    }

    public int rules(int n, int from) {
        status = moreStatus(isWithin(n, 0, taped) && isDay(from), texts.size(), MOST_TEXTS);
        if (status != FINE) {
            return NONE;
        }
        Reader reader = new Reader(tape, n, Rule.SIGNS, Rule.WORDS);
        reader.cut();
        Rule text = new Rule(reader, from);
        text.readDefs();
        endReading(reader);
        if (status != FINE) {
            return NONE;
        }
        texts.add(text);
        stale = true;
        return text.defs;
    }

    public int fault(int what) {
        if (what == 0) {
            return faultKind;
        }
        return what == 1 ? faultPlace : NONE;
    }

    public int server(int stratum) {
        status = moreStatus(isWithin(stratum, 0, LAST_STRATUM), strata.size(), MOST_SERVERS);
        if (status != FINE) {
            return NONE;
        }
        strata.add(stratum);
        return strata.size() - 1;
    }

    public int notice(int server, int clock, int day, int kind, int count) {
        status = noticeStatus(server, clock, day, kind, count);
        if (status != FINE) {
            return NONE;
        }
        notices.add(new Notice(server, clock, day, kind, count));
        stale = true;
        return notices.size() - 1;
    }

    public int told(int notice, int what) {
        status = toldStatus(notice, what);
        if (status != FINE) {
            return NONE;
        }
        settle();
        return isTold(notice, what) ? 1 : 0;
    }

    public int table(int clock, int day) {
        if (!isClock(clock)) {
            status = NO_SUCH;
        } else {
            status = isDay(day) ? FINE : BAD_NUMBER;
        }
        if (status != FINE) {
            return NONE;
        }
        settle();
        return clocks.get(clock).table.kindOf(day);
    }

    public int misses(int clock) {
        status = isClock(clock) ? FINE : NO_SUCH;
        if (status != FINE) {
            return NONE;
        }
        settle();
        return clocks.get(clock).table.unlikeDays(truth);
    }

    private void feedOne(int four) {
        for (int shift = 24; shift >= 0; shift -= 8) {
            tape[taped] = (byte) (four >> shift);
            taped++;
        }
    }

    /** The tape is used up by a TEXT with a FAULT as well. */
    private void endReading(Reader reader) {
        taped = 0;
        faultKind = reader.faultKind;
        faultPlace = reader.faultPlace;
        status = faultKind == 0 ? FINE : FAULTY;
    }

    private int noticeStatus(int server, int clock, int day, int kind, int count) {
        if (server < 0 || server >= strata.size() || !isClock(clock)) {
            return NO_SUCH;
        }
        if (!isDay(day) || kind != 1 && kind != -1 || !isCount(count)) {
            return BAD_NUMBER;
        }
        int many = notices.size();
        if (many >= MOST_NOTICES) {
            return TOO_MANY;
        }
        return many > 0 && count < notices.get(many - 1).count ? GONE : FINE;
    }

    private int toldStatus(int notice, int what) {
        if (notice < 0 || notice >= notices.size()) {
            return NO_SUCH;
        }
        return isWithin(what, 0, 3) ? FINE : BAD_NUMBER;
    }

    private boolean isTold(int number, int what) {
        Notice notice = notices.get(number);
        if (what == 0) {
            return notice.inTime;
        }
        if (what == 1) {
            return notice.believed;
        }
        boolean isFalse = notice.kind != truth.kindOf(notice.day);
        return isFalse && (what == 2 || isLastToGovern(number));
    }

    private boolean isLastToGovern(int number) {
        Notice notice = notices.get(number);
        for (int i = number + 1; i < notices.size(); i++) {
            if (notices.get(i).isOfSameDay(notice) && notices.get(i).governs()) {
                return false;
            }
        }
        return notice.governs();
    }

    private boolean isBelieved(int number) {
        Notice notice = notices.get(number);
        truth.turnTo(notice.count);
        Rule text = textInForce(truth.day);
        if (text == null || text.believe == NONE) {
            return true;
        }
        fillVariables(text.variables, number, truth.day);
        return text.holds();
    }

    private Rule textInForce(int day) {
        Rule best = null;
        for (int i = 0; i < texts.size(); i++) {
            Rule text = texts.get(i);
            if (text.from <= day && (best == null || text.from >= best.from)) {
                best = text;
            }
        }
        return best;
    }

    /** In the order of Rule.WORDS. */
    private void fillVariables(long[] variables, int number, int trueDay) {
        Notice notice = notices.get(number);
        int alike = 0;
        int against = 0;
        for (int i = 0; i < number; i++) {
            if (notices.get(i).isOfSameDay(notice)) {
                if (notices.get(i).kind == notice.kind) {
                    alike++;
                } else {
                    against++;
                }
            }
        }
        int year = trueDay / YEAR_DAYS;
        variables[0] = notice.server;
        variables[1] = strata.get(notice.server);
        variables[2] = notice.day - trueDay;
        variables[3] = notice.kind;
        variables[4] = alike;
        variables[5] = against;
        variables[6] = clocks.get(notice.clock).way;
        variables[7] = notice.clock;
        variables[8] = trueDay;
        variables[9] = Math.min(11, (trueDay - YEAR_DAYS * year) / 30);
        variables[10] = year;
    }

    // ---- STAMPS

    public int stamp(int clock, int count) {
        status = stampStatus(clock, count);
        if (status != FINE) {
            return NONE;
        }
        stamps.add(new Stamp(clock, count));
        return stamps.size() - 1;
    }

    public int wrong() {
        status = FINE;
        settle();
        readStamps();
        int pairs = 0;
        for (int j = 1; j < stamps.size(); j++) {
            for (int i = 0; i < j; i++) {
                if (stamps.get(i).isWrongWith(stamps.get(j))) {
                    pairs++;
                }
            }
        }
        return pairs;
    }

    public int blamed(int what) {
        status = isWithin(what, 0, 2) ? FINE : BAD_NUMBER;
        if (status != FINE) {
            return NONE;
        }
        settle();
        readStamps();
        int[] quarrels = quarrels();
        int fewest = MOST_CLOCKS + 1;
        int leastSet = 0;
        int rivals = 0;
        for (int set = 0; set < 1 << clocks.size(); set++) {
            int many = Integer.bitCount(set);
            if (many <= fewest && isBlamable(set, quarrels)) {
                if (many < fewest) {
                    fewest = many;
                    leastSet = set;
                    rivals = 0;
                }
                rivals++;
            }
        }
        if (what == 0) {
            return fewest;
        }
        return what == 1 ? leastSet : rivals;
    }

    private int stampStatus(int clock, int count) {
        int asClock = clockCountStatus(clock, count);
        if (asClock != FINE) {
            return asClock;
        }
        int many = stamps.size();
        if (many >= MOST_STAMPS) {
            return TOO_MANY;
        }
        return many > 0 && count < stamps.get(many - 1).count ? GONE : FINE;
    }

    /** A STAMP is what its CLOCK SHOWS there by all that is told until now, so it is read when it is asked for. */
    private void readStamps() {
        for (int i = 0; i < stamps.size(); i++) {
            Stamp stamp = stamps.get(i);
            stamp.shown = clocks.get(stamp.clock).shownAt(stamp.count);
        }
    }

    /** Of each CLOCK the set of those with which it has WRONG STAMPS: itself, too. */
    private int[] quarrels() {
        int[] sets = new int[MOST_CLOCKS];
        for (int j = 1; j < stamps.size(); j++) {
            Stamp later = stamps.get(j);
            for (int i = 0; i < j; i++) {
                Stamp earlier = stamps.get(i);
                if (earlier.isWrongWith(later)) {
                    sets[earlier.clock] |= 1 << later.clock;
                    sets[later.clock] |= 1 << earlier.clock;
                }
            }
        }
        return sets;
    }

    private boolean isBlamable(int set, int[] quarrels) {
        for (int i = 0; i < clocks.size(); i++) {
            boolean isOutside = (set >> i & 1) == 0;
            if (isOutside && (quarrels[i] & ~set) != 0) {
                return false;
            }
        }
        return true;
    }

    // ---- a PROGRAM

    public int program(int n) {
        status = isWithin(n, 0, taped) ? FINE : BAD_NUMBER;
        if (status != FINE) {
            return NONE;
        }
        Reader reader = new Reader(tape, n, Program.SIGNS, Program.WORDS);
        reader.cut();
        Program text = new Program(reader);
        text.readLines();
        endReading(reader);
        if (status != FINE) {
            return NONE;
        }
        program = text;
        return text.lines;
    }

    public int run(int clock, int count) {
        status = runStatus(clock, count);
        if (status != FINE || program == null) {
            return NONE;
        }
        settle();
        return latestRun.perform(program, clocks.get(clock), count);
    }

    public int ran(int what) {
        if (!isWithin(what, 0, 2)) {
            status = BAD_NUMBER;
        } else {
            status = latestRun.clock == null ? NOTHING : FINE;
        }
        if (status != FINE) {
            return NONE;
        }
        if (what == 0) {
            return latestRun.at;
        }
        return what == 1 ? latestRun.late : latestRun.keptInAll;
    }

    public long kept(int k) {
        status = latestRun.hasKept(k) ? FINE : NOTHING;
        return status == FINE ? latestRun.keeps[k] : NONE;
    }

    private int runStatus(int clock, int count) {
        if (!isClock(clock)) {
            return NO_SUCH;
        }
        if (!isWithin(count, 0, LAST_RUN_COUNT)) {
            return BAD_NUMBER;
        }
        return program == null ? NOTHING : FINE;
    }

    // ---- ANSWERS, FIND

    public int answers(int least, int greatest, int many) {
        status = rowsStatus(least, greatest, many, MOST_ANSWERS);
        if (status == FINE && !areAnswers(trays[least], trays[greatest], many)) {
            status = BAD_NUMBER;
        }
        if (status != FINE) {
            return NONE;
        }
        latestAnswers = new Answers(trays[least].numbers, trays[greatest].numbers, many);
        latestAnswers.agree();
        return many - latestAnswers.agreeing;
    }

    public int span(int what) {
        if (!isWithin(what, 0, 1)) {
            status = BAD_NUMBER;
        } else {
            status = latestAnswers == null ? NOTHING : FINE;
        }
        if (status != FINE || latestAnswers == null) {
            return NONE;
        }
        return (int) (what == 0 ? latestAnswers.spanLeast : latestAnswers.spanGreatest);
    }

    public int lies(int k) {
        if (latestAnswers == null || k < 0 || k >= latestAnswers.many) {
            status = NOTHING;
            return NONE;
        }
        status = FINE;
        return latestAnswers.isLie(k) ? 1 : 0;
    }

    public int find(int seconds, int shown, int many) {
        status = rowsStatus(seconds, shown, many, MOST_SEEN);
        if (status == FINE && !areSeen(trays[seconds], trays[shown], many)) {
            status = BAD_NUMBER;
        }
        if (status != FINE) {
            return NONE;
        }
        foundWays = 0;
        for (int way = WAY_TELLS; way <= WAY_GOES_ON; way++) {
            if (showsAll(way, trays[seconds], trays[shown], many)) {
                foundWays |= 1 << way;
            }
        }
        return foundWays;
    }

    /**
     * In SECOND 0 all WAYS show 0; from 1 to 86,399 they all show alike but for the one that smears, which shows
     * less in each of them: so the first of these stands for them all, and only the last SECOND can tell more.
     */
    public int ask() {
        int early = foundWays == NONE ? 1 : unlikeShown(foundWays, 1);
        int last = foundWays == NONE ? 1 : unlikeShown(foundWays, DAY_SECONDS);
        status = Math.max(early, last) > 1 ? FINE : NOTHING;
        if (status != FINE) {
            return NONE;
        }
        return last > early ? DAY_SECONDS : 1;
    }

    private int rowsStatus(int one, int other, int many, int most) {
        if (!isTray(one) || !isTray(other)) {
            return NO_TRAY;
        }
        if (trays[one] == null || trays[other] == null) {
            return MISSING;
        }
        if (!isWithin(many, 1, most)) {
            return BAD_NUMBER;
        }
        return trays[one].hasRow(0, many) && trays[other].hasRow(0, many) ? FINE : NO_PLACE;
    }

    private static boolean areAnswers(Tray least, Tray greatest, int many) {
        for (int i = 0; i < many; i++) {
            if (least.at(i) < -WIDEST_ANSWER || greatest.at(i) > WIDEST_ANSWER || least.at(i) > greatest.at(i)) {
                return false;
            }
        }
        return true;
    }

    private static boolean areSeen(Tray seconds, Tray shown, int many) {
        for (int i = 0; i < many; i++) {
            if (seconds.at(i) < 0 || seconds.at(i) > DAY_SECONDS) {
                return false;
            }
            if (shown.at(i) < 0 || shown.at(i) > DAY_THOUSANDTHS) {
                return false;
            }
        }
        return true;
    }

    private static boolean showsAll(int way, Tray seconds, Tray shown, int many) {
        for (int i = 0; i < many; i++) {
            if (thousandthsShown(way, (int) seconds.at(i), 1) != shown.at(i)) {
                return false;
            }
        }
        return true;
    }

    private static int unlikeShown(int ways, int second) {
        int unlike = 0;
        for (int way = WAY_TELLS; way <= WAY_GOES_ON; way++) {
            if ((ways >> way & 1) == 1 && !isShownByLower(ways, way, second)) {
                unlike++;
            }
        }
        return unlike;
    }

    private static boolean isShownByLower(int ways, int way, int second) {
        long shown = thousandthsShown(way, second, 1);
        for (int lower = WAY_TELLS; lower < way; lower++) {
            if ((ways >> lower & 1) == 1 && thousandthsShown(lower, second, 1) == shown) {
                return true;
            }
        }
        return false;
    }

    // ---- LANDS

    public boolean land(int land, int offset, int from, int to) {
        status = newLandStatus(land, offset, from, to);
        if (status != FINE) {
            return false;
        }
        lands[land] = new Land(offset, from, to);
        return true;
    }

    public int local(int land, int count) {
        if (!isLand(land)) {
            status = NO_SUCH;
        } else {
            status = isCount(count) ? FINE : BAD_NUMBER;
        }
        if (status != FINE) {
            return NONE;
        }
        truth.turnTo(count);
        int minute = Math.min(truth.second / 60, DAY_MINUTES - 1);
        return lands[land].localOf(DAY_MINUTES * truth.day + minute + lands[land].offset);
    }

    public int oft(int land, int day, int minute) {
        if (!isLand(land)) {
            status = NO_SUCH;
        } else {
            boolean canBe = isWithin(day, 1, LAST_DAY - 1) && isWithin(minute, 0, DAY_MINUTES - 1);
            status = canBe ? FINE : BAD_NUMBER;
        }
        return status == FINE ? lands[land].timesOf(DAY_MINUTES * day + minute) : NONE;
    }

    private static int newLandStatus(int land, int offset, int from, int to) {
        if (!isLand(land)) {
            return NO_SUCH;
        }
        boolean canBe = isWithin(offset, -720, 840) && from >= 0 && from <= to && to < YEAR_DAYS;
        return canBe ? FINE : BAD_NUMBER;
    }

    private static boolean isLand(int land) {
        return land >= 0 && land < MOST_LANDS;
    }

    /** A row of numbers of one sort. */
    private static final class Tray {
        private final int sort;
        private final long[] numbers;

        Tray(int sort, int many) {
            this.sort = sort;
            this.numbers = new long[Math.max(0, many)];
        }

        int size() {
            return numbers.length;
        }

        boolean hasRow(int place, int many) {
            return place >= 0 && many >= 0 && place <= numbers.length - many;
        }

        long at(int place) {
            return place >= 0 && place < numbers.length ? numbers[place] : 0;
        }

        void put(int place, long v) {
            int spareBits = 64 - (8 << sort);
            if (place >= 0 && place < numbers.length) {
                numbers[place] = v << spareBits >> spareBits;
            }
        }
    }

    /** The DAYS that are longer or shorter, in their order, and where each begins. */
    private static final class Table {
        private final int[] days;
        private final int[] kinds;
        private final long[] starts;
        private int many;
        /** What turnTo() came to: fields, because a call may turn some ten thousand times. */
        private int day;
        private int second;
        private int kind;

        Table(int room) {
            days = new int[room];
            kinds = new int[room];
            starts = new long[room];
        }

        void clear() {
            many = 0;
        }

        boolean isFull() {
            return many >= days.length;
        }

        int kindOf(int ofDay) {
            int place = placeOf(ofDay);
            return isAt(place, ofDay) ? kinds[place] : 0;
        }

        int lengthOf(int ofDay) {
            return DAY_SECONDS + kindOf(ofDay);
        }

        void tell(int ofDay, int newKind) {
            int place = placeOf(ofDay);
            if (isAt(place, ofDay)) {
                if (newKind == 0) {
                    removeAt(place);
                } else {
                    kinds[place] = newKind;
                }
            } else if (newKind != 0 && !isFull()) {
                insertAt(place, ofDay, newKind);
            }
            reckonStarts();
        }

        long startOf(int ofDay) {
            long start = (long) DAY_SECONDS * ofDay;
            for (int i = 0; i < many && days[i] < ofDay; i++) {
                start += kinds[i];
            }
            return start;
        }

        /** The COUNT of a DAY and SECOND; of a SECOND that the DAY has not: that at which the next DAY begins. */
        long nearestCount(int ofDay, int ofSecond) {
            return ofSecond < lengthOf(ofDay) ? startOf(ofDay) + ofSecond : startOf(ofDay + 1);
        }

        void turnTo(long count) {
            int last = NONE;
            for (int i = 0; i < many && starts[i] <= count; i++) {
                last = i;
            }
            if (last == NONE) {
                turnToPlainDay(0, count);
                return;
            }
            long into = count - starts[last];
            int length = DAY_SECONDS + kinds[last];
            if (into < length) {
                day = days[last];
                second = (int) into;
                kind = kinds[last];
            } else {
                turnToPlainDay(days[last] + 1, into - length);
            }
        }

        int unlikeDays(Table other) {
            int unlike = 0;
            for (int i = 0; i < many; i++) {
                if (other.kindOf(days[i]) != kinds[i]) {
                    unlike++;
                }
            }
            for (int i = 0; i < other.many; i++) {
                if (kindOf(other.days[i]) == 0) {
                    unlike++;
                }
            }
            return unlike;
        }

        private void turnToPlainDay(int firstDay, long seconds) {
            day = firstDay + (int) (seconds / DAY_SECONDS);
            second = (int) (seconds % DAY_SECONDS);
            kind = 0;
        }

        private int placeOf(int ofDay) {
            int place = 0;
            while (place < many && days[place] < ofDay) {
                place++;
            }
            return place;
        }

        private boolean isAt(int place, int ofDay) {
            return place < many && days[place] == ofDay;
        }

        private void insertAt(int place, int newDay, int newKind) {
            for (int i = many; i > place; i--) {
                days[i] = days[i - 1];
                kinds[i] = kinds[i - 1];
            }
            days[place] = newDay;
            kinds[place] = newKind;
            many++;
        }

        private void removeAt(int place) {
            many--;
            for (int i = place; i < many; i++) {
                days[i] = days[i + 1];
                kinds[i] = kinds[i + 1];
            }
        }

        private void reckonStarts() {
            int more = 0;
            for (int i = 0; i < many; i++) {
                starts[i] = (long) DAY_SECONDS * days[i] + more;
                more += kinds[i];
            }
        }
    }

    /** A CLOCK with its TABLE, and its STEPS in the order in which they are done. */
    private static final class Clock {
        private final int way;
        private final Table table;
        private final int[] stepCounts;
        private final int[] leads;
        private int steps;

        Clock(int way) {
            this.way = way;
            this.table = new Table(MOST_NOTICES);
            this.stepCounts = new int[MOST_STEPS];
            this.leads = new int[MOST_STEPS];
        }

        void addStep(int count) {
            if (steps >= MOST_STEPS) {
                return;
            }
            int place = steps;
            while (place > 0 && stepCounts[place - 1] > count) {
                stepCounts[place] = stepCounts[place - 1];
                place--;
            }
            stepCounts[place] = count;
            steps++;
        }

        /** A STEP sets the lead whatever it was, so each is worked out by itself. */
        void reckonSteps(Table truth) {
            for (int i = 0; i < steps; i++) {
                truth.turnTo(stepCounts[i]);
                leads[i] = (int) (table.nearestCount(truth.day, truth.second) - stepCounts[i]);
            }
        }

        int leadAt(int count) {
            int lead = 0;
            for (int i = 0; i < steps && stepCounts[i] <= count; i++) {
                lead = leads[i];
            }
            return lead;
        }

        long shownAt(int count) {
            table.turnTo(Math.max(0, count + leadAt(count)));
            return SHOWN_DAY * table.day + thousandthsShown(way, table.second, table.kind);
        }
    }

    /** What a SERVER told a CLOCK; inTime and believed are set by settle(). */
    private static final class Notice {
        private final int server;
        private final int clock;
        private final int day;
        private final int kind;
        private final int count;
        private boolean inTime;
        private boolean believed;

        Notice(int server, int clock, int day, int kind, int count) {
            this.server = server;
            this.clock = clock;
            this.day = day;
            this.kind = kind;
            this.count = count;
        }

        boolean governs() {
            return inTime && believed;
        }

        boolean isOfSameDay(Notice other) {
            return clock == other.clock && day == other.day;
        }
    }

    /** A CLOCK's STAMP; what it shows is set by readStamps(). */
    private static final class Stamp {
        private final int clock;
        private final int count;
        private long shown;

        Stamp(int clock, int count) {
            this.clock = clock;
            this.count = count;
        }

        boolean isWrongWith(Stamp later) {
            return count < later.count && shown >= later.shown;
        }
    }

    /**
     * A text, cut into TOKENS, and how far it is read. It keeps the first FAULT; behind that it stands on a TOKEN that
     * nothing takes, so that those who read by it come to their end by themselves.
     */
    private static final class Reader {
        private static final int END = 0;
        private static final int WORD = 1;
        private static final int NUMBER = 2;
        private static final int SIGN = 3;
        private static final int BAD = 4;
        private static final int MOST_DIGITS = 6;
        private static final int FAULT_NO_TOKEN = 1;
        private static final int FAULT_CANNOT_STAND = 2;

        private final char[] text;
        private final String signs;
        private final String words;
        private final int[] kinds;
        /** Of a NUMBER what it is, of a SIGN the sign, of a WORD its place in words, or NONE. */
        private final int[] codes;
        private final int[] starts;
        private final int[] ends;
        private int many;
        private int at;
        private int faultKind;
        private int faultPlace;

        /** The words have blanks between them. */
        Reader(byte[] bytes, int length, String signs, String words) {
            this.text = new char[Math.max(0, Math.min(length, bytes.length))];
            for (int i = 0; i < text.length; i++) {
                text[i] = (char) (bytes[i] & 255);
            }
            this.signs = signs;
            this.words = words;
            // no TOKEN is empty but the end
            this.kinds = new int[text.length + 1];
            this.codes = new int[text.length + 1];
            this.starts = new int[text.length + 1];
            this.ends = new int[text.length + 1];
            this.faultPlace = NONE;
        }

        void cut() {
            int place = 0;
            while (place < text.length) {
                place = Math.max(place + 1, cutOne(place));
            }
            add(END, NONE, text.length, text.length);
        }

        boolean isFine() {
            return faultKind == 0;
        }

        boolean isEnd() {
            return kinds[at] == END;
        }

        boolean isNumber() {
            return kinds[at] == NUMBER;
        }

        boolean isAnyWord() {
            return kinds[at] == WORD;
        }

        boolean isSign(char sign) {
            return kinds[at] == SIGN && codes[at] == sign;
        }

        boolean isWord(int code) {
            return kinds[at] == WORD && codes[at] == code;
        }

        int code() {
            return codes[at];
        }

        int wordLength() {
            return ends[at] - starts[at];
        }

        boolean isSameWord(int token) {
            if (token < 0 || token >= many || ends[token] - starts[token] != wordLength()) {
                return false;
            }
            for (int i = 0; i < wordLength(); i++) {
                if (text[starts[token] + i] != text[starts[at] + i]) {
                    return false;
                }
            }
            return true;
        }

        void refuse(int newFault) {
            if (faultKind != 0) {
                return;
            }
            faultKind = kinds[at] == BAD ? FAULT_NO_TOKEN : newFault;
            faultPlace = starts[at];
            kinds[at] = BAD;
        }

        void takeSign(char sign) {
            if (isSign(sign)) {
                advance();
            } else {
                refuse(FAULT_CANNOT_STAND);
            }
        }

        void takeWord(int code) {
            if (isWord(code)) {
                advance();
            } else {
                refuse(FAULT_CANNOT_STAND);
            }
        }

        void advance() {
            if (at < many - 1 && kinds[at] != BAD) {
                at++;
            }
        }

        private void add(int kind, int code, int start, int end) {
            if (many < kinds.length) {
                kinds[many] = kind;
                codes[many] = code;
                starts[many] = start;
                ends[many] = end;
                many++;
            }
        }

        private int cutOne(int start) {
            char sign = text[start];
            int end = start + 1;
            if (isWithin(sign, 'a', 'z')) {
                end = endOfRun(start, 'a', 'z');
                add(WORD, placeInWords(start, end), start, end);
            } else if (isWithin(sign, '0', '9')) {
                end = endOfRun(start, '0', '9');
                boolean isShort = end - start <= MOST_DIGITS;
                add(isShort ? NUMBER : BAD, isShort ? numberOf(start, end) : NONE, start, end);
            } else if (sign != ' ' && sign != '\n') {
                add(signs.indexOf(sign) >= 0 ? SIGN : BAD, sign, start, end);
            }
            return end;
        }

        private int endOfRun(int start, char first, char last) {
            int end = start;
            while (end < text.length && text[end] >= first && text[end] <= last) {
                end++;
            }
            return end;
        }

        private int numberOf(int start, int end) {
            int number = 0;
            for (int i = start; i < end; i++) {
                number = 10 * number + (text[i] - '0');
            }
            return number;
        }

        private int placeInWords(int start, int end) {
            int place = 0;
            int from = 0;
            for (int i = 0; i <= words.length(); i++) {
                if (i == words.length() || words.charAt(i) == ' ') {
                    if (isSpelt(start, end, from, i)) {
                        return place;
                    }
                    place++;
                    from = i + 1;
                }
            }
            return NONE;
        }

        private boolean isSpelt(int start, int end, int from, int to) {
            if (to - from != end - start) {
                return false;
            }
            for (int i = 0; i < to - from; i++) {
                if (words.charAt(from + i) != text[start + i]) {
                    return false;
                }
            }
            return true;
        }
    }

    /**
     * A TEXT of DEFS. It is read into operations that take what they need from a pile and lay their outcome on it:
     * so a long SUM needs no deep recursion. Both sides of an if are worked out, as no side does anything else.
     */
    private static final class Rule {
        private static final String SIGNS = ":;<>=+-*/%(),";
        /** The key words, then the VARIABLES in the order of fillVariables(), then the NAME that counts. */
        private static final String WORDS =
                "if then else and or not least most server stratum ahead kind alike against way clock day month year believe";
        private static final int WORD_IF = 0;
        private static final int WORD_THEN = 1;
        private static final int WORD_ELSE = 2;
        private static final int WORD_AND = 3;
        private static final int WORD_OR = 4;
        private static final int WORD_NOT = 5;
        private static final int WORD_LEAST = 6;
        private static final int WORD_MOST = 7;
        private static final int FIRST_VARIABLE = 8;
        private static final int WORD_BELIEVE = 19;
        private static final int MOST_VARIABLES = WORD_BELIEVE - FIRST_VARIABLE;
        private static final int MOST_DEFS = 10;
        private static final int LONGEST_NAME = 8;
        private static final int DEEPEST = 8;
        /** Five numbers at most lie on the pile for each level of depth. */
        private static final int PILE_ROOM = 64;

        private static final int FAULT_TOO_MANY = 3;
        private static final int FAULT_NAME_AGAIN = 4;
        private static final int FAULT_TOO_DEEP = 5;
        private static final int FAULT_UNKNOWN = 6;

        private static final int OP_NUMBER = 0;
        private static final int OP_VARIABLE = 1;
        private static final int OP_NAMED = 2;
        private static final int OP_KEEP = 3;
        private static final int OP_CHOOSE = 4;
        private static final int OP_ADD = 5;
        private static final int OP_LESS_OF = 6;
        private static final int OP_TIMES = 7;
        private static final int OP_BY = 8;
        private static final int OP_REST = 9;
        private static final int OP_LEAST = 10;
        private static final int OP_MOST = 11;
        private static final int OP_BELOW = 12;
        private static final int OP_ABOVE = 13;
        private static final int OP_ALIKE = 14;
        private static final int OP_AND = 15;
        private static final int OP_OR = 16;

        private final Reader reader;
        private final int from;
        private final int[] operations;
        private final int[] operands;
        private int many;
        private int defs;
        private int believe;
        private final int[] nameTokens;
        private final long[] variables;
        private final long[] pile;
        private final boolean[] pileLacks;
        private int height;
        private final long[] values;
        private final boolean[] valueLacks;

        Rule(Reader reader, int from) {
            this.reader = reader;
            this.from = from;
            // no TOKEN makes more than one operation
            operations = new int[reader.many];
            operands = new int[reader.many];
            believe = NONE;
            nameTokens = new int[MOST_DEFS];
            variables = new long[MOST_VARIABLES];
            pile = new long[PILE_ROOM];
            pileLacks = new boolean[PILE_ROOM];
            values = new long[MOST_DEFS];
            valueLacks = new boolean[MOST_DEFS];
        }

        void readDefs() {
            for (int i = 0; i <= MOST_DEFS && reader.isFine() && !reader.isEnd(); i++) {
                readDef();
            }
        }

        private void readDef() {
            if (!isName()) {
                reader.refuse(Reader.FAULT_CANNOT_STAND);
            } else if (defs >= MOST_DEFS) {
                reader.refuse(FAULT_TOO_MANY);
            } else if (placeOfName() != NONE) {
                reader.refuse(FAULT_NAME_AGAIN);
            } else {
                nameTokens[defs] = reader.at;
                if (reader.isWord(WORD_BELIEVE)) {
                    believe = defs;
                }
                reader.advance();
                reader.takeSign(':');
                readPart(1, true);
                emit(OP_KEEP, defs);
                reader.takeSign(';');
                defs++;
            }
        }

        private boolean isName() {
            return reader.isAnyWord() && reader.wordLength() <= LONGEST_NAME && !isKeyWord() && !isVariable();
        }

        private boolean isKeyWord() {
            return reader.isAnyWord() && isWithin(reader.code(), WORD_IF, WORD_MOST);
        }

        private boolean isVariable() {
            return reader.isAnyWord() && isWithin(reader.code(), FIRST_VARIABLE, WORD_BELIEVE - 1);
        }

        /** Among the DEFS ahead: that which is being read is not yet one of them. */
        private int placeOfName() {
            for (int i = 0; i < defs; i++) {
                if (reader.isSameWord(nameTokens[i])) {
                    return i;
                }
            }
            return NONE;
        }

        /** A WHOLE, or where there may be no if, a SUM. */
        private void readPart(int depth, boolean mayBeIf) {
            boolean isIf = mayBeIf && reader.isWord(WORD_IF);
            if (depth > DEEPEST) {
                reader.refuse(isIf || canBeginSum() ? FAULT_TOO_DEEP : Reader.FAULT_CANNOT_STAND);
            } else if (isIf) {
                reader.advance();
                readTest(depth);
                reader.takeWord(WORD_THEN);
                readPart(depth + 1, true);
                reader.takeWord(WORD_ELSE);
                readPart(depth + 1, true);
                emit(OP_CHOOSE, 0);
            } else {
                readSum(depth);
            }
        }

        private boolean canBeginSum() {
            boolean isWordForIt = reader.isAnyWord() && (isFew() || !isKeyWord());
            return isWordForIt || reader.isNumber() || reader.isSign('(');
        }

        private void readTest(int depth) {
            readOne(depth);
            boolean isOr = reader.isWord(WORD_OR);
            int word = isOr ? WORD_OR : WORD_AND;
            for (int i = 0; i < reader.many && reader.isWord(word); i++) {
                reader.advance();
                readOne(depth);
                emit(isOr ? OP_OR : OP_AND, 0);
            }
        }

        private void readOne(int depth) {
            boolean isNot = reader.isWord(WORD_NOT);
            if (isNot) {
                reader.advance();
            }
            readSum(depth);
            int operation = comparesHere();
            if (operation == NONE) {
                reader.refuse(Reader.FAULT_CANNOT_STAND);
            } else {
                reader.advance();
                readSum(depth);
                emit(operation, isNot ? 1 : 0);
            }
        }

        private int comparesHere() {
            if (reader.isSign('<')) {
                return OP_BELOW;
            }
            if (reader.isSign('>')) {
                return OP_ABOVE;
            }
            return reader.isSign('=') ? OP_ALIKE : NONE;
        }

        private void readSum(int depth) {
            readItem(depth);
            for (int i = 0; i < reader.many && (reader.isSign('+') || reader.isSign('-')); i++) {
                int operation = reader.isSign('+') ? OP_ADD : OP_LESS_OF;
                reader.advance();
                readItem(depth);
                emit(operation, 0);
            }
        }

        private void readItem(int depth) {
            readAtom(depth);
            for (int i = 0; i < reader.many && timesHere() != NONE; i++) {
                int operation = timesHere();
                reader.advance();
                readAtom(depth);
                emit(operation, 0);
            }
        }

        private int timesHere() {
            if (reader.isSign('*')) {
                return OP_TIMES;
            }
            if (reader.isSign('/')) {
                return OP_BY;
            }
            return reader.isSign('%') ? OP_REST : NONE;
        }

        private void readAtom(int depth) {
            if (reader.isNumber()) {
                emit(OP_NUMBER, reader.code());
                reader.advance();
            } else if (reader.isSign('(')) {
                reader.advance();
                readPart(depth + 1, true);
                reader.takeSign(')');
            } else if (isFew()) {
                readFew(depth);
            } else if (reader.isAnyWord()) {
                readWordAtom();
            } else {
                reader.refuse(Reader.FAULT_CANNOT_STAND);
            }
        }

        private boolean isFew() {
            return reader.isWord(WORD_LEAST) || reader.isWord(WORD_MOST);
        }

        private void readFew(int depth) {
            int operation = reader.isWord(WORD_LEAST) ? OP_LEAST : OP_MOST;
            reader.advance();
            reader.takeSign('(');
            readPart(depth + 1, false);
            reader.takeSign(',');
            readPart(depth + 1, false);
            reader.takeSign(')');
            emit(operation, 0);
        }

        private void readWordAtom() {
            int named = placeOfName();
            if (isVariable()) {
                emit(OP_VARIABLE, reader.code() - FIRST_VARIABLE);
                reader.advance();
            } else if (named != NONE) {
                emit(OP_NAMED, named);
                reader.advance();
            } else {
                reader.refuse(isKeyWord() ? Reader.FAULT_CANNOT_STAND : FAULT_UNKNOWN);
            }
        }

        private void emit(int operation, int operand) {
            if (many < operations.length) {
                operations[many] = operation;
                operands[many] = operand;
                many++;
            }
        }

        /** Whether the DEF believe, by the variables as they are, is a number other than 0. */
        boolean holds() {
            height = 0;
            for (int i = 0; i < many; i++) {
                perform(operations[i], operands[i]);
            }
            return believe >= 0 && believe < MOST_DEFS && !valueLacks[believe] && values[believe] != 0;
        }

        private void perform(int operation, int operand) {
            switch (operation) {
                case OP_NUMBER:
                    lay(operand, false);
                    break;
                case OP_VARIABLE:
                    lay(variables[operand], false);
                    break;
                case OP_NAMED:
                    lay(values[operand], valueLacks[operand]);
                    break;
                case OP_KEEP:
                    keepValue(operand);
                    break;
                case OP_CHOOSE:
                    choose();
                    break;
                default:
                    combine(operation, operand != 0);
                    break;
            }
        }

        private void lay(long value, boolean lacks) {
            if (height < PILE_ROOM) {
                pile[height] = value;
                pileLacks[height] = lacks;
                height++;
            }
        }

        private void keepValue(int def) {
            if (height > 0) {
                height--;
                values[def] = pile[height];
                valueLacks[def] = pileLacks[height];
            }
        }

        private void choose() {
            if (height < 3) {
                return;
            }
            height -= 3;
            int chosen = pile[height] != 0 ? height + 1 : height + 2;
            lay(pile[chosen], pileLacks[chosen]);
        }

        private void combine(int operation, boolean isNot) {
            if (height < 2) {
                return;
            }
            height -= 2;
            long a = pile[height];
            long b = pile[height + 1];
            boolean lacks = pileLacks[height] || pileLacks[height + 1];
            if (operation == OP_BELOW || operation == OP_ABOVE || operation == OP_ALIKE) {
                // without a number neither a ONE nor the not of it holds
                lay(!lacks && compares(operation, a, b) != isNot ? 1 : 0, false);
            } else if ((operation == OP_BY || operation == OP_REST) && b == 0) {
                lay(0, true);
            } else {
                lay(outcome(operation, a, b), lacks);
            }
        }

        private static boolean compares(int operation, long a, long b) {
            if (operation == OP_BELOW) {
                return a < b;
            }
            return operation == OP_ABOVE ? a > b : a == b;
        }

        private static long outcome(int operation, long a, long b) {
            switch (operation) {
                case OP_ADD:
                    return a + b;
                case OP_LESS_OF:
                    return a - b;
                case OP_TIMES:
                    return a * b;
                case OP_BY:
                    return b == 0 ? 0 : a / b;
                case OP_REST:
                    return b == 0 ? 0 : a % b;
                case OP_LEAST:
                    return a < b ? a : b;
                case OP_MOST:
                    return a > b ? a : b;
                case OP_AND:
                    return a & b;
                default:
                    return a | b;
            }
        }
    }

    /** A PROGRAM: its LINES one behind the other, and behind those of an again a row that leads back. */
    private static final class Program {
        private static final String SIGNS = ":;<>=+-*/%(),{}";
        private static final String WORDS = "wait until stamp parse again refuse fold take";
        private static final int WAIT = 0;
        private static final int UNTIL = 1;
        private static final int STAMP = 2;
        private static final int PARSE = 3;
        private static final int AGAIN = 4;
        private static final int HOW_REFUSE = 5;
        private static final int HOW_FOLD = 6;
        private static final int HOW_TAKE = 7;
        private static final int BACK = 8;

        private static final int FAULT_TOO_MANY = 3;
        private static final int FAULT_BAD_NUMBER = 4;
        private static final int FAULT_TOO_DEEP = 5;

        private static final int MOST_LINES = 40;
        private static final int DEEPEST = 3;
        private static final int LONGEST_WAIT = 3_600;
        private static final int FEWEST_TIMES = 2;
        private static final int MOST_TIMES = 20;

        private final Reader reader;
        private final int[] sorts;
        private final int[] operands;
        private final int[] levels;
        private int many;
        private int lines;

        Program(Reader reader) {
            this.reader = reader;
            sorts = new int[2 * MOST_LINES];
            operands = new int[2 * MOST_LINES];
            levels = new int[2 * MOST_LINES];
        }

        void readLines() {
            readLinesWithin(0);
            if (!reader.isEnd()) {
                reader.refuse(Reader.FAULT_CANNOT_STAND);
            }
        }

        private void readLinesWithin(int agains) {
            for (int i = 0; i <= MOST_LINES && canBeLine(); i++) {
                readLine(agains);
            }
        }

        private boolean canBeLine() {
            return reader.isFine() && !reader.isEnd() && !reader.isSign('}');
        }

        private void readLine(int agains) {
            int sort = reader.code();
            if (!reader.isAnyWord() || !isWithin(sort, WAIT, AGAIN)) {
                reader.refuse(Reader.FAULT_CANNOT_STAND);
            } else if (lines >= MOST_LINES) {
                reader.refuse(FAULT_TOO_MANY);
            } else if (sort == AGAIN && agains >= DEEPEST) {
                reader.refuse(FAULT_TOO_DEEP);
            } else {
                lines++;
                reader.advance();
                if (sort == AGAIN) {
                    readAgain(agains);
                } else {
                    emit(sort, readOperand(sort), agains);
                    reader.takeSign(';');
                }
            }
        }

        private int readOperand(int sort) {
            if (sort == WAIT) {
                return takeNumber(1, LONGEST_WAIT);
            }
            if (sort == UNTIL) {
                return readTime();
            }
            return sort == PARSE ? readHow() : 0;
        }

        private int readTime() {
            int hour = takeNumber(0, 23);
            reader.takeSign(':');
            int minute = takeNumber(0, 59);
            reader.takeSign(':');
            int second = takeNumber(0, 59);
            return 3_600 * hour + 60 * minute + second;
        }

        private int readHow() {
            int how = reader.code();
            if (reader.isAnyWord() && isWithin(how, HOW_REFUSE, HOW_TAKE)) {
                reader.advance();
            } else {
                reader.refuse(Reader.FAULT_CANNOT_STAND);
            }
            return how;
        }

        private void readAgain(int agains) {
            int times = takeNumber(FEWEST_TIMES, MOST_TIMES);
            reader.takeSign('{');
            emit(AGAIN, times, agains);
            int first = many;
            readLinesWithin(agains + 1);
            reader.takeSign('}');
            emit(BACK, first, agains);
        }

        private int takeNumber(int least, int greatest) {
            int number = reader.code();
            if (!reader.isNumber()) {
                reader.refuse(Reader.FAULT_CANNOT_STAND);
            } else if (!isWithin(number, least, greatest)) {
                reader.refuse(FAULT_BAD_NUMBER);
            } else {
                reader.advance();
            }
            return number;
        }

        private void emit(int sort, int operand, int level) {
            if (many < sorts.length) {
                sorts[many] = sort;
                operands[many] = operand;
                levels[many] = level;
                many++;
            }
        }
    }

    /** The latest RUN; its clock is null ahead of the first. */
    private static final class Run {
        private static final int DONE = 0;
        private static final int REFUSED = 1;
        private static final int EVER = 2;
        private static final int LONGEST = 5_000;
        private static final int MOST_KEPT = 40;
        /** Three agains of 20 times around 37 LINES come to some 312,000. */
        private static final int MOST_ROWS = 1_000_000;

        private Program program;
        private Clock clock;
        private int first;
        private int at;
        private long shown;
        private int outcome;
        private int late;
        private int keptInAll;
        private final long[] keeps;
        private final int[] timesLeft;

        Run() {
            keeps = new long[MOST_KEPT];
            timesLeft = new int[Program.DEEPEST];
        }

        boolean hasKept(int k) {
            return k >= 0 && k < MOST_KEPT && k < keptInAll;
        }

        int perform(Program newProgram, Clock newClock, int count) {
            program = newProgram;
            clock = newClock;
            first = count;
            at = count;
            shown = clock.shownAt(count);
            outcome = DONE;
            late = 0;
            keptInAll = 0;
            int row = 0;
            for (int i = 0; i < MOST_ROWS && outcome == DONE && row < program.many; i++) {
                row = performRow(row);
            }
            return outcome;
        }

        private int performRow(int row) {
            int operand = program.operands[row];
            switch (program.sorts[row]) {
                case Program.WAIT:
                    waitFor(operand);
                    return row + 1;
                case Program.UNTIL:
                    goOnUntil(1000L * operand);
                    return row + 1;
                case Program.STAMP:
                    keep(shown);
                    return row + 1;
                case Program.PARSE:
                    parse(operand);
                    return row + 1;
                case Program.AGAIN:
                    timesLeft[program.levels[row]] = operand - 1;
                    return row + 1;
                default:
                    return rowBehindBack(row);
            }
        }

        private int rowBehindBack(int row) {
            int level = program.levels[row];
            if (timesLeft[level] <= 0) {
                return row + 1;
            }
            timesLeft[level]--;
            return program.operands[row];
        }

        /** A wait that EVER cuts off was never over, so it is not LATE. */
        private void waitFor(int seconds) {
            int began = at;
            long goal = thousandthsInAll(shown) + 1000L * seconds;
            for (int i = 0; i <= LONGEST && outcome == DONE && thousandthsInAll(shown) < goal; i++) {
                goOn();
            }
            if (outcome == DONE) {
                late += at - began - seconds;
            }
        }

        private void goOnUntil(long thousandths) {
            for (int i = 0; i <= LONGEST && outcome == DONE && shown % SHOWN_DAY < thousandths; i++) {
                goOn();
            }
        }

        /**
         * At the last COUNT it is only for EVER if it would have to go on: a LINE that is over there is done. So those
         * who call this have one turn more than there are COUNTS.
         */
        private void goOn() {
            if (at - first >= LONGEST) {
                outcome = EVER;
            } else {
                at++;
                shown = clock.shownAt(at);
            }
        }

        private void parse(int how) {
            boolean isExtra = shown % SHOWN_DAY == DAY_THOUSANDTHS;
            if (isExtra && how == Program.HOW_REFUSE) {
                outcome = REFUSED;
            } else if (isExtra && how == Program.HOW_FOLD) {
                keep((shown / SHOWN_DAY + 1) * SHOWN_DAY);
            } else {
                keep(shown);
            }
        }

        private void keep(long what) {
            if (keptInAll < MOST_KEPT) {
                keeps[keptInAll] = what;
            }
            keptInAll++;
        }
    }

    /** ANSWERS, and the numbers that most of them have in common. */
    private static final class Answers {
        private final long[] leasts;
        private final long[] greatests;
        private final int many;
        private int agreeing;
        private long spanLeast;
        private long spanGreatest;

        Answers(long[] leasts, long[] greatests, int many) {
            this.many = Math.min(many, Math.min(leasts.length, greatests.length));
            this.leasts = new long[this.many];
            this.greatests = new long[this.many];
            System.arraycopy(leasts, 0, this.leasts, 0, this.many);
            System.arraycopy(greatests, 0, this.greatests, 0, this.many);
        }

        /** The first number that a set of ANSWERS has in common is the least of one of them, the last a greatest. */
        void agree() {
            for (int i = 0; i < many; i++) {
                agreeing = Math.max(agreeing, manyWith(leasts[i]));
            }
            spanLeast = WIDEST_ANSWER;
            spanGreatest = -WIDEST_ANSWER;
            for (int i = 0; i < many; i++) {
                if (manyWith(leasts[i]) == agreeing) {
                    spanLeast = Math.min(spanLeast, leasts[i]);
                }
                if (manyWith(greatests[i]) == agreeing) {
                    spanGreatest = Math.max(spanGreatest, greatests[i]);
                }
            }
        }

        /** Where an ANSWER agrees with most others, it does so at one of their leasts, or its own, too. */
        boolean isLie(int k) {
            for (int i = 0; i < many; i++) {
                if (isIn(k, leasts[i]) && manyWith(leasts[i]) == agreeing) {
                    return false;
                }
            }
            return true;
        }

        private int manyWith(long number) {
            int with = 0;
            for (int i = 0; i < many; i++) {
                if (isIn(i, number)) {
                    with++;
                }
            }
            return with;
        }

        private boolean isIn(int k, long number) {
            return leasts[k] <= number && number <= greatests[k];
        }
    }

    /** A LAND's OFFSET and SUMMER. */
    private static final class Land {
        private static final int SUMMER_BEGINS = 60;
        private static final int SUMMER_ENDS = 120;
        private static final int SUMMER_MINUTES = 60;

        private final int offset;
        private final int from;
        private final int to;

        Land(int offset, int from, int to) {
            this.offset = offset;
            this.from = from;
            this.to = to;
        }

        int localOf(int standard) {
            return isSummer(standard) ? standard + SUMMER_MINUTES : standard;
        }

        int timesOf(int localMinutes) {
            int asStandard = localOf(localMinutes) == localMinutes ? 1 : 0;
            int asSummer = localOf(localMinutes - SUMMER_MINUTES) == localMinutes ? 1 : 0;
            return asStandard + asSummer;
        }

        private boolean isSummer(int standard) {
            int minuteOfYear = Math.floorMod(standard, YEAR_DAYS * DAY_MINUTES);
            return from < to && minuteOfYear >= from * DAY_MINUTES + SUMMER_BEGINS
                    && minuteOfYear < to * DAY_MINUTES + SUMMER_ENDS;
        }
    }
}
