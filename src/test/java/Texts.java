/** Texts of rules and programs, good ones and such with a FAULT, and what a DEF believe comes to. */
final class Texts {
    private Texts() {
    }

    static void goodRules(String text, int defs) {
        LeapNet x = new LeapNet();
        Check.due(x, text, Check.rules(x, text, 0), defs, 0);
        dueNoFault(x, text);
    }

    static void goodProgram(String text, int lines) {
        LeapNet x = new LeapNet();
        Check.due(x, text, Check.program(x, text), lines, 0);
        dueNoFault(x, text);
    }

    /** The sign ^ is not of the text: it stands ahead of the place of the FAULT. */
    static void faultyRules(String marked, int kind) {
        LeapNet x = new LeapNet();
        Check.refused(x, marked, Check.rules(x, unmarked(marked), 0), 10);
        dueFault(x, marked, kind, marked.indexOf('^'));
    }

    static void faultyProgram(String marked, int kind) {
        LeapNet x = new LeapNet();
        Check.refused(x, marked, Check.program(x, unmarked(marked)), 10);
        dueFault(x, marked, kind, marked.indexOf('^'));
    }

    static void dueFault(LeapNet x, String text, int kind, int place) {
        Check.due(text + ", fault(0)", x.fault(0), kind);
        Check.due(text + ", fault(1)", x.fault(1), place);
    }

    static void dueNoFault(LeapNet x, String text) {
        dueFault(x, text, 0, LeapNet.NONE);
    }

    private static String unmarked(String marked) {
        int place = marked.indexOf('^');
        return marked.substring(0, place) + marked.substring(place + 1);
    }

    /** A net with one NOTICE: SERVER 1 (of STRATUM 7) to CLOCK 2 (WAY 3) of DAY 800, kind -1, on the TRUE DAY 730. */
    static LeapNet oneNotice(String text) {
        LeapNet x = new LeapNet();
        x.server(0);
        x.server(7);
        x.clock(0);
        x.clock(1);
        x.clock(3);
        Check.due(x, text, Check.rules(x, text, 0) >= 0 ? 1 : 0, 1, 0);
        x.notice(1, 2, 800, -1, 730 * 86_400);
        return x;
    }

    static void believes(String text, int due) {
        Check.due(text, oneNotice(text).told(0, 1), due);
    }

    static void value(String sum, String is) {
        LeapNet x = oneNotice("believe: if " + sum + " = " + is + " then 1 else 0;");
        Check.due(sum + " is " + is, x.told(0, 1), 1);
    }
}
