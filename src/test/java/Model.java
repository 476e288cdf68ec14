import java.util.ArrayList;
import java.util.Arrays;
import java.util.HashMap;
import java.util.HashSet;
import java.util.List;
import java.util.Map;
import java.util.Set;
import java.util.TreeMap;

/**
 * The document once more, in the plainest form and by other means than the class: DAYS are walked through one by one,
 * rules are trees, what can't go on is thrown. ModelTest lets both answer the same calls.
 */
final class Model {
    private static final int NONE = -1;
    private static final int LAST_MODEL_DAY = 10_500;

    /** A call that ends with a STATUS other than 0. */
    private static final class Refusal extends RuntimeException {
        private static final long serialVersionUID = 1;
        final int status;

        Refusal(int status) {
            super(null, null, false, false);
            this.status = status;
        }
    }

    private static final class Fault extends RuntimeException {
        private static final long serialVersionUID = 1;
        final int kind;
        final int place;

        Fault(int kind, int place) {
            super(null, null, false, false);
            this.kind = kind;
            this.place = place;
        }
    }

    /** There is no number. */
    private static final class NoNumber extends RuntimeException {
        private static final long serialVersionUID = 1;

        NoNumber() {
            super(null, null, false, false);
        }
    }

    private interface Call {
        long answer();
    }

    private int status;
    private final long[][] trays = new long[4][];
    private final int[] sorts = new int[4];
    private final Map<Integer, Integer> truth = new TreeMap<>();
    private Days trueDays;
    private final List<Integer> ways = new ArrayList<>();
    private final List<int[]> steps = new ArrayList<>();
    private final List<Integer> strata = new ArrayList<>();
    private final List<int[]> notices = new ArrayList<>();
    private final List<Rules> texts = new ArrayList<>();
    private final List<int[]> stamps = new ArrayList<>();
    private final StringBuilder tape = new StringBuilder();
    private int faultKind = NONE;
    private int faultPlace = NONE;
    private List<Line> program;
    private Runner ran;
    private long[][] answered;
    private Set<Long> common;
    private int found = NONE;
    private final int[][] lands = new int[4][3];

    private long call(Call call) {
        try {
            status = 0;
            return call.answer();
        } catch (Refusal refusal) {
            status = refusal.status;
            return NONE;
        }
    }

    private boolean callTruth(Call call) {
        return call(call) == 1;
    }

    private static void refuseUnless(boolean holds, int status) {
        if (!holds) {
            throw new Refusal(status);
        }
    }

    int status() {
        return status;
    }

    // ---- TRAYS

    boolean tray(int tray, int sort, int many) {
        return callTruth(() -> {
            refuseUnless(tray >= 0 && tray < 4 && sort >= 0 && sort < 4, 1);
            refuseUnless(many <= 40, 5);
            refuseUnless(many >= 0, 6);
            trays[tray] = new long[many];
            sorts[tray] = sort;
            return 1;
        });
    }

    private void needTray(int... which) {
        for (int tray : which) {
            refuseUnless(tray >= 0 && tray < 4, 1);
        }
        for (int tray : which) {
            refuseUnless(trays[tray] != null, 3);
        }
    }

    boolean write(int tray, int place, long v) {
        return callTruth(() -> {
            needTray(tray);
            refuseUnless(place >= 0 && place < trays[tray].length, 4);
            long[] cut = {(byte) v, (short) v, (int) v, v};
            trays[tray][place] = cut[sorts[tray]];
            return 1;
        });
    }

    long read(int tray, int place) {
        return call(() -> {
            needTray(tray);
            refuseUnless(place >= 0 && place < trays[tray].length, 4);
            return trays[tray][place];
        });
    }

    boolean pour(int tray, int i, int to, int j, int many) {
        return callTruth(() -> {
            needTray(tray, to);
            refuseUnless(sorts[tray] == sorts[to], 11);
            refuseUnless(many >= 0, 6);
            refuseUnless(i >= 0 && j >= 0 && (long) i + many <= trays[tray].length
                && (long) j + many <= trays[to].length, 4);
            long[] row = Arrays.copyOfRange(trays[tray], i, i + many);
            for (int k = 0; k < many; k++) {
                trays[to][j + k] = row[k];
            }
            return 1;
        });
    }

    // ---- civil times

    /** Where each DAY begins by a TABLE. */
    private static final class Days {
        private final long[] starts = new long[LAST_MODEL_DAY + 1];

        Days(Map<Integer, Integer> table) {
            for (int day = 0; day < LAST_MODEL_DAY; day++) {
                starts[day + 1] = starts[day] + 86_400 + table.getOrDefault(day, 0);
            }
        }

        int dayOf(long count) {
            int found = Arrays.binarySearch(starts, count);
            return found >= 0 ? found : -found - 2;
        }

        long secondOf(long count) {
            return count - starts[dayOf(count)];
        }

        long lengthOf(int day) {
            return starts[day + 1] - starts[day];
        }
    }

    private Days trueDays() {
        if (trueDays == null) {
            trueDays = new Days(truth);
        }
        return trueDays;
    }

    private static void needCount(int count) {
        refuseUnless(count >= 0 && count <= 900_000_000, 5);
    }

    private static void needDay(int day) {
        refuseUnless(day >= 0 && day <= 9_999, 5);
    }

    private static void needWhat(int what, int last) {
        refuseUnless(what >= 0 && what <= last, 5);
    }

    boolean leap(int day, int kind) {
        return callTruth(() -> {
            needDay(day);
            refuseUnless(kind >= -1 && kind <= 1, 5);
            trueDays = null;
            if (kind == 0) {
                truth.remove(day);
            } else {
                refuseUnless(truth.containsKey(day) || truth.size() < 20, 7);
                truth.put(day, kind);
            }
            return 1;
        });
    }

    int civil(int count, int what) {
        return (int) call(() -> {
            needCount(count);
            needWhat(what, 1);
            return what == 0 ? trueDays().dayOf(count) : trueDays().secondOf(count);
        });
    }

    int count(int day, int second) {
        return (int) call(() -> {
            needDay(day);
            refuseUnless(second >= 0 && second <= 86_400, 5);
            Days days = trueDays();
            refuseUnless(days.starts[day] + second <= 900_000_000, 5);
            refuseUnless(second < days.lengthOf(day), 9);
            return days.starts[day] + second;
        });
    }

    // ---- CLOCKS

    private void needClock(int clock) {
        refuseUnless(clock >= 0 && clock < ways.size(), 2);
    }

    int clock(int way) {
        return (int) call(() -> {
            needWhat(way, 3);
            refuseUnless(ways.size() < 12, 7);
            ways.add(way);
            return ways.size() - 1;
        });
    }

    boolean step(int clock, int count) {
        return callTruth(() -> {
            needClock(clock);
            needCount(count);
            refuseUnless(steps.size() < 60, 7);
            steps.add(new int[] {clock, count});
            return 1;
        });
    }

    /** What a CLOCK is by all that is told now. */
    private final class Dial {
        final int clock;
        final Days own;
        final Days real;
        final Map<Integer, Integer> table;

        Dial(int clock) {
            this.clock = clock;
            this.table = tableOf(clock);
            this.own = new Days(table);
            this.real = trueDays();
        }

        long ahead(int count) {
            long ahead = 0;
            List<int[]> mine = new ArrayList<>();
            for (int[] step : steps) {
                if (step[0] == clock && step[1] <= count) {
                    mine.add(step);
                }
            }
            mine.sort((a, b) -> Integer.compare(a[1], b[1]));
            if (!mine.isEmpty()) {
                int at = mine.get(mine.size() - 1)[1];
                int day = real.dayOf(at);
                long second = real.secondOf(at);
                ahead = (second < own.lengthOf(day) ? own.starts[day] + second : own.starts[day + 1]) - at;
            }
            return ahead;
        }

        long shown(int count) {
            long at = Math.max(0, count + ahead(count));
            int day = own.dayOf(at);
            return 100_000_000L * day + thousandths(ways.get(clock), own.secondOf(at), own.lengthOf(day));
        }

        long inAll(int count) {
            long shown = shown(count);
            return shown / 100_000_000 * 86_400_000 + shown % 100_000_000;
        }
    }

    private static long thousandths(int way, long second, long length) {
        if (way == 3 && length != 86_400) {
            return 86_400_000 * second / length;
        }
        if (second == 86_400) {
            return new long[] {86_400_000, 86_399_000, 86_399_999, NONE, 0}[way];
        }
        return 1000 * second;
    }

    long shows(int clock, int count) {
        return call(() -> {
            needClock(clock);
            needCount(count);
            return new Dial(clock).shown(count);
        });
    }

    int ahead(int clock, int count) {
        return (int) call(() -> {
            needClock(clock);
            needCount(count);
            return new Dial(clock).ahead(count);
        });
    }

    long off(int clock, int r, int count) {
        return call(() -> {
            needClock(clock);
            needClock(r);
            needCount(count);
            return new Dial(clock).inAll(count) - new Dial(r).inAll(count);
        });
    }

    long worst(int from, int to, int what) {
        return call(() -> {
            needCount(from);
            needCount(to);
            refuseUnless(from <= to && to - from <= 2_000, 5);
            needWhat(what, 1);
            refuseUnless(ways.size() >= 2, 8);
            List<Dial> dials = new ArrayList<>();
            for (int i = 0; i < ways.size(); i++) {
                dials.add(new Dial(i));
            }
            long worst = -1;
            long when = -1;
            for (int count = from; count <= to; count++) {
                long[] at = new long[dials.size()];
                for (int i = 0; i < at.length; i++) {
                    at[i] = dials.get(i).inAll(count);
                }
                for (long a : at) {
                    for (long b : at) {
                        if (Math.abs(a - b) > worst) {
                            worst = Math.abs(a - b);
                            when = count;
                        }
                    }
                }
            }
            return what == 0 ? worst : when;
        });
    }

    // ---- RULES, NOTICES

    int feed(int a, int b, int c, int d, int e) {
        if (tape.length() > 480) {
            return NONE;
        }
        for (int four : new int[] {a, b, c, d, e}) {
            tape.append((char) (four >>> 24)).append((char) (four >>> 16 & 255)).append((char) (four >>> 8 & 255))
                .append((char) (four & 255));
        }
        return tape.length();
    }

    private long reading(int n, Call reader) {
        try {
            long answer = reader.answer();
            faultKind = 0;
            faultPlace = NONE;
            return answer;
        } catch (Fault fault) {
            faultKind = fault.kind;
            faultPlace = fault.place;
            throw new Refusal(10);
        } finally {
            tape.setLength(0);
        }
    }

    int rules(int n, int from) {
        return (int) call(() -> {
            refuseUnless(n >= 0 && n <= tape.length(), 5);
            needDay(from);
            refuseUnless(texts.size() < 4, 7);
            return reading(n, () -> {
                Rules rules = new Rules(tape.substring(0, n), from);
                texts.add(rules);
                return rules.defs.size();
            });
        });
    }

    int fault(int what) {
        return what == 0 ? faultKind : what == 1 ? faultPlace : NONE;
    }

    int server(int stratum) {
        return (int) call(() -> {
            needWhat(stratum, 15);
            refuseUnless(strata.size() < 8, 7);
            strata.add(stratum);
            return strata.size() - 1;
        });
    }

    int notice(int server, int clock, int day, int kind, int count) {
        return (int) call(() -> {
            refuseUnless(server >= 0 && server < strata.size(), 2);
            needClock(clock);
            needDay(day);
            refuseUnless(kind == 1 || kind == -1, 5);
            needCount(count);
            refuseUnless(notices.size() < 60, 7);
            refuseUnless(notices.isEmpty() || count >= notices.get(notices.size() - 1)[4], 12);
            notices.add(new int[] {server, clock, day, kind, count});
            return notices.size() - 1;
        });
    }

    private boolean isInTime(int notice) {
        int[] it = notices.get(notice);
        return it[4] < trueDays().starts[it[2] + 1];
    }

    private boolean isBelieved(int notice) {
        int[] it = notices.get(notice);
        int today = trueDays().dayOf(it[4]);
        Rules inForce = null;
        for (int day = today; day >= 0 && inForce == null; day--) {
            for (Rules text : texts) {
                if (text.from == day) {
                    inForce = text;
                }
            }
        }
        if (inForce == null || !inForce.defs.containsKey("believe")) {
            return true;
        }
        Map<String, Long> known = new HashMap<>();
        long alike = 0;
        long against = 0;
        for (int[] other : notices.subList(0, notice)) {
            if (other[1] == it[1] && other[2] == it[2]) {
                alike += other[3] == it[3] ? 1 : 0;
                against += other[3] != it[3] ? 1 : 0;
            }
        }
        long[] values = {it[0], strata.get(it[0]), it[2] - today, it[3], alike, against, ways.get(it[1]), it[1], today,
            Math.min(11, today % 365 / 30), today / 365};
        for (int i = 0; i < values.length; i++) {
            known.put(Rules.VARIABLES.get(i), values[i]);
        }
        try {
            return inForce.valueOf("believe", known) != 0;
        } catch (NoNumber none) {
            return false;
        }
    }

    private int governing(int clock, int day) {
        for (int i = notices.size() - 1; i >= 0; i--) {
            if (notices.get(i)[1] == clock && notices.get(i)[2] == day && isInTime(i) && isBelieved(i)) {
                return i;
            }
        }
        return NONE;
    }

    private Map<Integer, Integer> tableOf(int clock) {
        Map<Integer, Integer> table = new TreeMap<>();
        for (int[] notice : notices) {
            if (notice[1] == clock && !table.containsKey(notice[2])) {
                int by = governing(clock, notice[2]);
                if (by != NONE) {
                    table.put(notice[2], notices.get(by)[3]);
                }
            }
        }
        return table;
    }

    int told(int notice, int what) {
        return (int) call(() -> {
            refuseUnless(notice >= 0 && notice < notices.size(), 2);
            needWhat(what, 3);
            int[] it = notices.get(notice);
            boolean isFalse = truth.getOrDefault(it[2], 0) != it[3];
            boolean[] told = {what == 0 && isInTime(notice), what == 1 && isBelieved(notice), isFalse,
                isFalse && governing(it[1], it[2]) == notice};
            return told[what] ? 1 : 0;
        });
    }

    int table(int clock, int day) {
        return (int) call(() -> {
            needClock(clock);
            needDay(day);
            return tableOf(clock).getOrDefault(day, 0);
        });
    }

    int misses(int clock) {
        return (int) call(() -> {
            needClock(clock);
            Map<Integer, Integer> own = tableOf(clock);
            long misses = 0;
            for (int day = 0; day <= 9_999; day++) {
                misses += own.getOrDefault(day, 0).equals(truth.getOrDefault(day, 0)) ? 0 : 1;
            }
            return misses;
        });
    }

    // ---- STAMPS

    int stamp(int clock, int count) {
        return (int) call(() -> {
            needClock(clock);
            needCount(count);
            refuseUnless(stamps.size() < 60, 7);
            refuseUnless(stamps.isEmpty() || count >= stamps.get(stamps.size() - 1)[1], 12);
            stamps.add(new int[] {clock, count});
            return stamps.size() - 1;
        });
    }

    private List<int[]> wrongPairs() {
        List<Dial> dials = new ArrayList<>();
        for (int i = 0; i < ways.size(); i++) {
            dials.add(new Dial(i));
        }
        List<int[]> pairs = new ArrayList<>();
        for (int[] a : stamps) {
            for (int[] b : stamps) {
                if (a[1] < b[1] && !(dials.get(a[0]).shown(a[1]) < dials.get(b[0]).shown(b[1]))) {
                    pairs.add(new int[] {a[0], b[0]});
                }
            }
        }
        return pairs;
    }

    int wrong() {
        return (int) call(() -> wrongPairs().size());
    }

    int blamed(int what) {
        return (int) call(() -> {
            needWhat(what, 2);
            List<int[]> pairs = wrongPairs();
            for (int size = 0; size <= 12; size++) {
                int least = NONE;
                int rivals = 0;
                for (int set = 0; set < 1 << ways.size(); set++) {
                    boolean covers = Integer.bitCount(set) == size;
                    for (int[] pair : pairs) {
                        covers = covers && ((set >> pair[0] | set >> pair[1]) & 1) == 1;
                    }
                    if (covers) {
                        least = least == NONE ? set : least;
                        rivals++;
                    }
                }
                if (rivals > 0) {
                    return new int[] {size, least, rivals}[what];
                }
            }
            throw new IllegalStateException("all CLOCKS are always enough");
        });
    }

    // ---- TOKENS

    private static final class Tokens {
        final String text;
        final List<String> tokens = new ArrayList<>();
        final List<Integer> places = new ArrayList<>();
        int at;

        Tokens(String text, String signs) {
            this.text = text;
            int i = 0;
            while (i < text.length()) {
                int from = i;
                char c = text.charAt(i);
                if (c >= 'a' && c <= 'z') {
                    while (i < text.length() && text.charAt(i) >= 'a' && text.charAt(i) <= 'z') {
                        i++;
                    }
                } else if (c >= '0' && c <= '9') {
                    while (i < text.length() && text.charAt(i) >= '0' && text.charAt(i) <= '9') {
                        i++;
                    }
                } else {
                    i++;
                }
                if (c != ' ' && c != '\n') {
                    String token = text.substring(from, i);
                    boolean isBad = token.matches("[0-9]{7,}") || !token.matches("[a-z]+|[0-9]+")
                        && signs.indexOf(c) < 0;
                    tokens.add(isBad ? "BAD" : token);
                    places.add(from);
                }
            }
            tokens.add("END");
            places.add(text.length());
        }

        String now() {
            return tokens.get(at);
        }

        boolean isNow(String pattern) {
            return now().matches(pattern);
        }

        Fault fault(int kind) {
            return new Fault(now().equals("BAD") ? 1 : kind, places.get(at));
        }

        String take(String pattern) {
            if (!isNow(pattern)) {
                throw fault(2);
            }
            return tokens.get(at++);
        }

        boolean takes(String token) {
            if (now().equals(token)) {
                at++;
                return true;
            }
            return false;
        }
    }

    // ---- a TEXT of rules

    private interface Tree {
        long value(Map<String, Long> known);
    }

    private static final class Rules {
        static final List<String> VARIABLES = List.of("server", "stratum", "ahead", "kind", "alike", "against", "way",
            "clock", "day", "month", "year");
        static final List<String> KEYS = List.of("if", "then", "else", "and", "or", "not", "least", "most");
        final int from;
        final Tokens tokens;
        final Map<String, Tree> defs = new HashMap<>();

        Rules(String text, int from) {
            this.from = from;
            this.tokens = new Tokens(text, ":;<>=+-*/%(),");
            while (!tokens.isNow("END")) {
                String name = tokens.now();
                if (!name.matches("[a-z]{1,8}") || VARIABLES.contains(name) || KEYS.contains(name)) {
                    throw tokens.fault(2);
                }
                if (defs.size() == 10) {
                    throw tokens.fault(3);
                }
                if (defs.containsKey(name)) {
                    throw tokens.fault(4);
                }
                tokens.take("[a-z]+");
                tokens.take(":");
                Tree tree = whole(1);
                tokens.take(";");
                defs.put(name, tree);
            }
        }

        long valueOf(String name, Map<String, Long> known) {
            return defs.get(name).value(known);
        }

        private void needDepth(int depth, String begins) {
            if (depth > 8 && tokens.isNow(begins + "|least|most|[0-9]+|\\(|(?!BAD|END)(?!(if|then|else|and|or|not|least|most)$)[a-z]+")) {
                throw tokens.fault(5);
            }
            if (depth > 8) {
                throw tokens.fault(2);
            }
        }

        private Tree whole(int depth) {
            needDepth(depth, "if");
            if (!tokens.takes("if")) {
                return sum(depth);
            }
            Tree test = test(depth);
            tokens.take("then");
            Tree yes = whole(depth + 1);
            tokens.take("else");
            Tree no = whole(depth + 1);
            return known -> test.value(known) == 1 ? yes.value(known) : no.value(known);
        }

        private Tree test(int depth) {
            List<Tree> ones = new ArrayList<>();
            ones.add(one(depth));
            String joint = tokens.now();
            boolean isAnd = joint.equals("and");
            while (tokens.isNow("and|or") && tokens.now().equals(joint)) {
                tokens.take(joint);
                ones.add(one(depth));
            }
            return known -> {
                for (Tree one : ones) {
                    boolean holds = one.value(known) == 1;
                    if (isAnd && !holds) {
                        return 0;
                    }
                    if (!isAnd && holds) {
                        return 1;
                    }
                }
                return isAnd ? 1 : 0;
            };
        }

        private Tree one(int depth) {
            boolean isNot = tokens.takes("not");
            Tree left = sum(depth);
            String sign = tokens.take("[<>=]");
            Tree right = sum(depth);
            return known -> {
                try {
                    int order = Long.compare(left.value(known), right.value(known));
                    boolean holds = order == "<=>".indexOf(sign) - 1;
                    return holds != isNot ? 1 : 0;
                } catch (NoNumber none) {
                    return 0;
                }
            };
        }

        private Tree sum(int depth) {
            Tree left = item(depth);
            while (tokens.isNow("[+-]")) {
                boolean isAdd = tokens.take("[+-]").equals("+");
                Tree a = left;
                Tree b = item(depth);
                left = known -> isAdd ? a.value(known) + b.value(known) : a.value(known) - b.value(known);
            }
            return left;
        }

        private Tree item(int depth) {
            Tree left = atom(depth);
            while (tokens.isNow("[*/%]")) {
                String sign = tokens.take("[*/%]");
                Tree a = left;
                Tree b = atom(depth);
                left = known -> {
                    long x = a.value(known);
                    long y = b.value(known);
                    if (sign.equals("*")) {
                        return x * y;
                    }
                    if (y == 0) {
                        throw new NoNumber();
                    }
                    return sign.equals("/") ? x / y : x % y;
                };
            }
            return left;
        }

        private Tree atom(int depth) {
            if (tokens.isNow("[0-9]+")) {
                long number = Long.parseLong(tokens.take("[0-9]+"));
                return known -> number;
            }
            if (tokens.takes("(")) {
                Tree inner = whole(depth + 1);
                tokens.take("\\)");
                return inner;
            }
            if (tokens.isNow("least|most")) {
                return few(depth);
            }
            String word = tokens.now();
            if (VARIABLES.contains(word)) {
                tokens.take(word);
                return known -> known.get(word);
            }
            if (defs.containsKey(word)) {
                tokens.take(word);
                return defs.get(word);
            }
            boolean isUnknown = word.matches("[a-z]+") && !KEYS.contains(word);
            throw tokens.fault(isUnknown ? 6 : 2);
        }

        private Tree few(int depth) {
            boolean isLeast = tokens.take("least|most").equals("least");
            tokens.take("\\(");
            needDepth(depth + 1, "least");
            Tree a = sum(depth + 1);
            tokens.take(",");
            needDepth(depth + 1, "least");
            Tree b = sum(depth + 1);
            tokens.take("\\)");
            return known -> {
                long x = a.value(known);
                long y = b.value(known);
                return isLeast ? Math.min(x, y) : Math.max(x, y);
            };
        }
    }

    // ---- a PROGRAM

    private static final class Line {
        final String word;
        long number;
        String how;
        List<Line> inner;

        Line(String word) {
            this.word = word;
        }
    }

    private static final class Lines {
        final Tokens tokens;
        int many;

        Lines(String text) {
            tokens = new Tokens(text, ":;<>=+-*/%(),{}");
        }

        List<Line> read(int agains, String end) {
            List<Line> lines = new ArrayList<>();
            while (!tokens.now().equals(end)) {
                if (!tokens.isNow("wait|until|stamp|parse|again")) {
                    throw tokens.fault(2);
                }
                if (many == 40) {
                    throw tokens.fault(3);
                }
                if (tokens.isNow("again") && agains == 3) {
                    throw tokens.fault(5);
                }
                many++;
                Line line = new Line(tokens.take("[a-z]+"));
                lines.add(line);
                if (line.word.equals("again")) {
                    line.number = number(2, 20);
                    tokens.take("\\{");
                    line.inner = read(agains + 1, "}");
                    tokens.take("\\}");
                } else {
                    readRest(line);
                    tokens.take(";");
                }
            }
            return lines;
        }

        private void readRest(Line line) {
            if (line.word.equals("wait")) {
                line.number = number(1, 3_600);
            } else if (line.word.equals("until")) {
                line.number = 3_600_000 * number(0, 23);
                tokens.take(":");
                line.number += 60_000 * number(0, 59);
                tokens.take(":");
                line.number += 1_000 * number(0, 59);
            } else if (line.word.equals("parse")) {
                line.how = tokens.take("refuse|fold|take");
            }
        }

        private long number(int least, int greatest) {
            if (tokens.isNow("[0-9]+")) {
                int number = Integer.parseInt(tokens.now());
                if (number < least || number > greatest) {
                    throw tokens.fault(4);
                }
            }
            return Long.parseLong(tokens.take("[0-9]+"));
        }
    }

    private static final class RunEnd extends RuntimeException {
        private static final long serialVersionUID = 1;
        final int outcome;

        RunEnd(int outcome) {
            super(null, null, false, false);
            this.outcome = outcome;
        }
    }

    private static final class Runner {
        final Dial dial;
        final int first;
        int at;
        int late;
        final List<Long> kept = new ArrayList<>();

        Runner(Dial dial, int first) {
            this.dial = dial;
            this.first = first;
            this.at = first;
        }

        void go(List<Line> lines) {
            for (Line line : lines) {
                long shown = dial.shown(at);
                switch (line.word) {
                    case "wait":
                        int began = at;
                        long goal = dial.inAll(at) + 1000 * line.number;
                        while (dial.inAll(at) < goal) {
                            tick();
                        }
                        late += at - began - (int) line.number;
                        break;
                    case "until":
                        while (dial.shown(at) % 100_000_000 < line.number) {
                            tick();
                        }
                        break;
                    case "stamp":
                        kept.add(shown);
                        break;
                    case "parse":
                        parse(line.how, shown);
                        break;
                    default:
                        for (int i = 0; i < line.number; i++) {
                            go(line.inner);
                        }
                }
            }
        }

        private void tick() {
            if (at == first + 5_000) {
                throw new RunEnd(2);
            }
            at++;
        }

        private void parse(String how, long shown) {
            boolean isExtra = shown % 100_000_000 == 86_400_000;
            if (isExtra && how.equals("refuse")) {
                throw new RunEnd(1);
            }
            kept.add(isExtra && how.equals("fold") ? shown + 13_600_000 : shown);
        }
    }

    int program(int n) {
        return (int) call(() -> {
            refuseUnless(n >= 0 && n <= tape.length(), 5);
            return reading(n, () -> {
                Lines lines = new Lines(tape.substring(0, n));
                List<Line> read = lines.read(0, "END");
                program = read;
                return lines.many;
            });
        });
    }

    int run(int clock, int count) {
        return (int) call(() -> {
            needClock(clock);
            refuseUnless(count >= 0 && count <= 899_990_000, 5);
            refuseUnless(program != null, 8);
            ran = new Runner(new Dial(clock), count);
            try {
                ran.go(program);
                return 0;
            } catch (RunEnd end) {
                return end.outcome;
            }
        });
    }

    int ran(int what) {
        return (int) call(() -> {
            needWhat(what, 2);
            refuseUnless(ran != null, 8);
            return new int[] {ran.at, ran.late, ran.kept.size()}[what];
        });
    }

    long kept(int k) {
        return call(() -> {
            refuseUnless(ran != null && k >= 0 && k < 40 && k < ran.kept.size(), 8);
            return ran.kept.get(k);
        });
    }

    // ---- ANSWERS, FIND

    private void needRows(int one, int other, int many, int most) {
        needTray(one, other);
        refuseUnless(many >= 1 && many <= most, 5);
        refuseUnless(trays[one].length >= many && trays[other].length >= many, 4);
    }

    /** Of the numbers in common only those at the ends of ANSWERS, and beside them, are looked at. */
    int answers(int least, int greatest, int many) {
        return (int) call(() -> {
            needRows(least, greatest, many, 12);
            Set<Long> candidates = new HashSet<>();
            for (int i = 0; i < many; i++) {
                long a = trays[least][i];
                long b = trays[greatest][i];
                refuseUnless(Math.abs(a) <= 1_000_000 && a != Long.MIN_VALUE, 5);
                refuseUnless(Math.abs(b) <= 1_000_000 && b != Long.MIN_VALUE, 5);
                refuseUnless(a <= b, 5);
                candidates.addAll(List.of(a - 1, a, a + 1));
                candidates.add(b);
                candidates.add(b + 1);
                candidates.add(b - 1);
            }
            answered = new long[][] {trays[least].clone(), trays[greatest].clone(), {many}};
            int most = 0;
            for (long number : candidates) {
                int with = manyWith(number);
                if (with > most) {
                    most = with;
                    common = new HashSet<>();
                }
                if (with == most && with > 0) {
                    common.add(number);
                }
            }
            return many - most;
        });
    }

    private int manyWith(long number) {
        int with = 0;
        for (int i = 0; i < answered[2][0]; i++) {
            with += answered[0][i] <= number && number <= answered[1][i] ? 1 : 0;
        }
        return with;
    }

    int span(int what) {
        return (int) call(() -> {
            needWhat(what, 1);
            refuseUnless(answered != null, 8);
            long best = common.iterator().next();
            for (long number : common) {
                best = what == 0 ? Math.min(best, number) : Math.max(best, number);
            }
            return best;
        });
    }

    int lies(int k) {
        return (int) call(() -> {
            refuseUnless(answered != null && k >= 0 && k < answered[2][0], 8);
            for (long number : common) {
                if (answered[0][k] <= number && number <= answered[1][k]) {
                    return 0;
                }
            }
            return 1;
        });
    }

    int find(int seconds, int shown, int many) {
        return (int) call(() -> {
            needRows(seconds, shown, many, 20);
            int set = 31;
            for (int i = 0; i < many; i++) {
                long second = trays[seconds][i];
                long seen = trays[shown][i];
                refuseUnless(second >= 0 && second <= 86_400 && seen >= 0 && seen <= 86_400_000, 5);
                for (int way = 0; way < 5; way++) {
                    set = thousandths(way, second, 86_401) == seen ? set : set & ~(1 << way);
                }
            }
            found = set;
            return set;
        });
    }

    int ask() {
        return (int) call(() -> {
            refuseUnless(found != NONE, 8);
            int best = 1;
            int at = NONE;
            for (int second = 0; second <= 86_400; second++) {
                Set<Long> unlike = new HashSet<>();
                for (int way = 0; way < 5; way++) {
                    if ((found >> way & 1) == 1) {
                        unlike.add(thousandths(way, second, 86_401));
                    }
                }
                if (unlike.size() > best) {
                    best = unlike.size();
                    at = second;
                }
            }
            refuseUnless(at != NONE, 8);
            return at;
        });
    }

    // ---- LANDS

    private static void needLand(int land) {
        refuseUnless(land >= 0 && land < 4, 2);
    }

    boolean land(int land, int offset, int from, int to) {
        return callTruth(() -> {
            needLand(land);
            refuseUnless(offset >= -720 && offset <= 840, 5);
            refuseUnless(from >= 0 && from <= 364 && to >= 0 && to <= 364 && from <= to, 5);
            lands[land] = new int[] {offset, from, to};
            return 1;
        });
    }

    private long localOf(int land, long standard) {
        int from = lands[land][1];
        int to = lands[land][2];
        long day = Math.floorDiv(standard, 1_440L);
        long dayOfYear = Math.floorMod(day, 365L);
        long minute = Math.floorMod(standard, 1_440L);
        boolean isSummer = from != to && (dayOfYear > from || dayOfYear == from && minute >= 60)
            && (dayOfYear < to || dayOfYear == to && minute < 120);
        return isSummer ? standard + 60 : standard;
    }

    int local(int land, int count) {
        return (int) call(() -> {
            needLand(land);
            needCount(count);
            Days days = trueDays();
            long minute = Math.min(1_439, days.secondOf(count) / 60);
            return localOf(land, 1_440L * days.dayOf(count) + minute + lands[land][0]);
        });
    }

    int oft(int land, int day, int minute) {
        return (int) call(() -> {
            needLand(land);
            refuseUnless(day >= 1 && day <= 9_998 && minute >= 0 && minute <= 1_439, 5);
            long wanted = 1_440L * day + minute;
            long oft = 0;
            for (long standard = wanted - 200; standard <= wanted + 200; standard++) {
                oft += localOf(land, standard) == wanted ? 1 : 0;
            }
            return oft;
        });
    }
}
