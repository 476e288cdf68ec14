/** Nets that many tests begin with. */
final class Nets {
    private Nets() {
    }

    /** One SERVER, and so many CLOCKS of a WAY. */
    static LeapNet ofClocks(int many, int way) {
        LeapNet x = new LeapNet();
        x.server(0);
        for (int i = 0; i < many; i++) {
            x.clock(way);
        }
        return x;
    }

    /** CLOCKS of WAY 0 to 3, told of a TRUE DAY 1 of a kind, a fifth (WAY 0) that is not told, and a PROGRAM. */
    static LeapNet withProgram(int kind, String program) {
        LeapNet x = new LeapNet();
        x.leap(1, kind);
        x.server(0);
        for (int way = 0; way < 4; way++) {
            x.clock(way);
            x.notice(0, way, 1, kind, 0);
        }
        x.clock(0);
        Check.due(x, program, Check.program(x, program) >= 0 ? 1 : 0, 1, 0);
        return x;
    }
}
