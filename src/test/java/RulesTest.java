/** Promises 16 to 18: the tape, TEXTS of rules, their FAULTS, and what their DEFS come to. */
public final class RulesTest {
    public static void main(String[] args) {
        feed();
        tapeOfRules();
        statuses();
        faultOfLatest();
        goodTexts();
        tokenFaults();
        grammarFaults();
        nameFaults();
        depthFaults();
        wordFaults();
        firstFaultWins();
        values();
        noValues();
        tests();
        longTexts();
        Check.end("RulesTest");
    }

    private static void feed() {
        LeapNet x = new LeapNet();
        for (int i = 1; i <= 25; i++) {
            Check.due("feed " + i, x.feed(0, 0, 0, 0, 0), 20 * i);
        }
        Check.due("feed beyond 500", x.feed(0, 0, 0, 0, 0), LeapNet.NONE);
        Check.due("feed has no STATUS", x.status(), 0);
        // "a:1; b:2; c:3; d:4;" stands in its bytes, the highest first
        LeapNet y = new LeapNet();
        y.feed(0x613a313b, 0x20623a32, 0x3b20633a, 0x333b2064, 0x3a343b20);
        Check.due(y, "rules(20, 0)", y.rules(20, 0), 4, 0);
    }

    private static void tapeOfRules() {
        LeapNet x = new LeapNet();
        Check.feed(x, "a:1; b:2;");
        Check.due(x, "only the first bytes count", x.rules(4, 0), 1, 0);
        Check.due("the tape is empty behind a TEXT", x.feed(0, 0, 0, 0, 0), 20);
        Check.refused(x, "a FAULT", x.rules(5, 0), 10);
        Check.due("the tape is empty behind a FAULT", x.feed(0x613a313b, 0, 0, 0, 0), 20);
        Check.refused(x, "rules(21, 0)", x.rules(21, 0), 5);
        Check.due("the tape stays behind 5", x.feed(0, 0, 0, 0, 0), 40);
        Check.due(x, "rules(4, 0)", x.rules(4, 0), 1, 0);
        Check.due(x, "an empty TEXT", x.rules(0, 0), 0, 0);
        Check.due(x, "a fourth", Check.rules(x, "  ", 9_999), 0, 0);
        Check.feed(x, "a:1;");
        Check.refused(x, "a fifth", x.rules(4, 0), 7);
        Check.due("the tape stays behind 7", x.feed(0, 0, 0, 0, 0), 40);
        Check.refused(x, "7 ahead of 10", x.rules(40, 0), 7);
        Check.refused(x, "5 ahead of 7", x.rules(41, 0), 5);
    }

    private static void statuses() {
        LeapNet x = new LeapNet();
        Check.refused(x, "rules(1, 0)", x.rules(1, 0), 5);
        Check.refused(x, "rules(-1, 0)", x.rules(-1, 0), 5);
        Check.refused(x, "rules(0, -1)", x.rules(0, -1), 5);
        Check.refused(x, "rules(0, 10000)", x.rules(0, 10_000), 5);
        Check.refused(x, "a FAULT is no TEXT", Check.rules(x, "a", 0), 10);
        for (int i = 0; i < 4; i++) {
            Check.due(x, "rules(0, 0)", x.rules(0, 0), 0, 0);
        }
        Check.refused(x, "a fifth", x.rules(0, 0), 7);
    }

    private static void faultOfLatest() {
        LeapNet x = new LeapNet();
        Check.due("fault(0) ahead of any", x.fault(0), LeapNet.NONE);
        Check.due("fault(1) ahead of any", x.fault(1), LeapNet.NONE);
        x.rules(1, 0);
        Check.due("fault(0) behind 5", x.fault(0), LeapNet.NONE);
        Check.rules(x, "a:1", 0);
        Check.due("fault(0)", x.fault(0), 2);
        Check.due("fault(1)", x.fault(1), 3);
        Check.due("fault(2)", x.fault(2), LeapNet.NONE);
        Check.due("fault(-1)", x.fault(-1), LeapNet.NONE);
        Check.due("fault() has no STATUS", x.status(), 10);
        x.rules(30, 0);
        Check.due("fault(0) behind 5", x.fault(0), 2);
        x.civil(0, 0);
        Check.due("fault(1) behind another call", x.fault(1), 3);
        Check.rules(x, "a:1;", 0);
        Check.due("fault(0) without one", x.fault(0), 0);
        Check.due("fault(1) without one", x.fault(1), LeapNet.NONE);
        Check.program(x, "wait");
        Check.due("fault(0) of a program", x.fault(0), 2);
        Check.due("fault(1) of a program", x.fault(1), 4);
        x.program(0);
        Check.due("fault(0) of an empty program", x.fault(0), 0);
    }

    private static void goodTexts() {
        Texts.goodRules("", 0);
        Texts.goodRules(" \n ", 0);
        Texts.goodRules("a:1;", 1);
        Texts.goodRules("\na\n:\n1\n;\n", 1);
        Texts.goodRules("a:000001;b:999999;c:a+b*a/b%a-b;", 3);
        Texts.goodRules("a:server+stratum+ahead+kind+alike+against+way+clock+day+month+year;", 1);
        Texts.goodRules("abcdefgh:1;", 1);
        Texts.goodRules("a:if 1<2 then 3 else 4;", 1);
        Texts.goodRules("a:if not 1<2 and not 2=3 and 4>5 then 3 else if 1=1 or 2=2 or not 3=3 then 5 else 6;", 1);
        Texts.goodRules("a:least(1,2)+most(least(1,2),(if 1=1 then 2 else 3));", 1);
        Texts.goodRules("a:if(if 1=1 then 1 else 2)=1 then(3)else(4);", 1);
        Texts.goodRules("a:1;b:1;c:1;d:1;e:1;f:1;g:1;h:1;i:1;j:1;", 10);
    }

    private static void tokenFaults() {
        Texts.faultyRules("a:^1234567;", 1);
        Texts.faultyRules("a:^12345678901234567890;", 1);
        Texts.faultyRules("a:1^A;", 1);
        Texts.faultyRules("^A:1;", 1);
        Texts.faultyRules("a:^{1};", 1);
        Texts.faultyRules("a:1;^.", 1);
        Texts.faultyRules("a:1^\t;", 1);
        Texts.faultyRules("a:1^\r;", 1);
        Texts.faultyRules("a:^\u00e9;", 1);
        Texts.faultyRules("a:^\u00ff;", 1);
        Texts.faultyRules("a:^\u0000;", 1);
        Texts.faultyRules("a:if 1 ^! 2 then 3 else 4;", 1);
        Texts.faultyRules("a:((((((((^#", 1);
        Texts.faultyRules("a:1;b:1;c:1;d:1;e:1;f:1;g:1;h:1;i:1;j:1;^_", 1);
    }

    private static void grammarFaults() {
        Texts.faultyRules("a^", 2);
        Texts.faultyRules("a   ^", 2);
        Texts.faultyRules("a:^", 2);
        Texts.faultyRules("a:1^", 2);
        Texts.faultyRules("a:1 \n ^", 2);
        Texts.faultyRules("^1:1;", 2);
        Texts.faultyRules("^:1;", 2);
        Texts.faultyRules("a ^1;", 2);
        Texts.faultyRules("a:^;", 2);
        Texts.faultyRules("a:1;^;", 2);
        Texts.faultyRules("a:1 ^1;", 2);
        Texts.faultyRules("a:1^b:2;", 2);
        Texts.faultyRules("a:1+^;", 2);
        Texts.faultyRules("a:^+1;", 2);
        Texts.faultyRules("a:^-1;", 2);
        Texts.faultyRules("a:1*^*1;", 2);
        Texts.faultyRules("a:1^<2;", 2);
        Texts.faultyRules("a:(1^;", 2);
        Texts.faultyRules("a:(^);", 2);
        Texts.faultyRules("a:1^);", 2);
        Texts.faultyRules("a:least^;", 2);
        Texts.faultyRules("a:least(1^);", 2);
        Texts.faultyRules("a:least(1,2^,3);", 2);
        Texts.faultyRules("a:least(^if 1=1 then 2 else 3,2);", 2);
        Texts.faultyRules("a:most(1,^if 1=1 then 2 else 3);", 2);
        Texts.faultyRules("a:most ^1,2);", 2);
        Texts.faultyRules("a:if 1 ^then 2 else 3;", 2);
        Texts.faultyRules("a:if 1<2^<3 then 2 else 3;", 2);
        Texts.faultyRules("a:if 1<2 ^else 3;", 2);
        Texts.faultyRules("a:if 1<2 then 3^;", 2);
        Texts.faultyRules("a:if 1<2 then 3 else^;", 2);
        Texts.faultyRules("a:if 1<2 and 2<3 ^or 3<4 then 5 else 6;", 2);
        Texts.faultyRules("a:if 1<2 or 2<3 ^and 3<4 then 5 else 6;", 2);
        Texts.faultyRules("a:if not ^not 1<2 then 5 else 6;", 2);
        Texts.faultyRules("a:if 1<^not 2 then 5 else 6;", 2);
        Texts.faultyRules("a:if (1^<2) then 5 else 6;", 2);
        Texts.faultyRules("a:1+^if 1=1 then 2 else 3;", 2);
        Texts.faultyRules("a:if ^if 1=1 then 2 else 3 = 1 then 2 else 3;", 2);
    }

    private static void nameFaults() {
        for (String word : new String[] {"if", "then", "else", "and", "or", "not", "least", "most", "server", "stratum",
            "ahead", "kind", "alike", "against", "way", "clock", "day", "month", "year", "abcdefghi"}) {
            Texts.faultyRules("^" + word + ":1;", 2);
            Texts.faultyRules("a:1;^" + word + ":1;", 2);
            Texts.faultyRules("a:1;b:1;c:1;d:1;e:1;f:1;g:1;h:1;i:1;j:1;^" + word + ":1;", 2);
        }
        Texts.goodRules("ifs:1;thens:2;days:3;wait:4;refuse:5;", 5);
        Texts.faultyRules("a:1;^a:2;", 4);
        Texts.faultyRules("believe:1;b:2;^believe:3;", 4);
        Texts.faultyRules("a:1;b:1;c:1;d:1;e:1;f:1;g:1;h:1;i:1;j:1;^k:1;", 3);
        Texts.faultyRules("a:1;b:1;c:1;d:1;e:1;f:1;g:1;h:1;i:1;j:1;^a:1;", 3);
        Texts.faultyRules("a:1;b:1;c:1;d:1;e:1;f:1;g:1;h:1;i:1;j:1;^a", 3);
    }

    private static void depthFaults() {
        Texts.goodRules("a:(((((((1)))))));", 1);
        Texts.faultyRules("a:((((((((^1))))))));", 5);
        Texts.faultyRules("a:((((((((^(1)))))))));", 5);
        Texts.faultyRules("a:((((((((^server))))))));", 5);
        Texts.faultyRules("a:((((((((^unknownword))))))));", 5);
        Texts.faultyRules("a:((((((((^if 1=1 then 2 else 3))))))));", 5);
        Texts.faultyRules("a:((((((((^least(1,2)))))))));", 5);
        Texts.faultyRules("a:((((((((^then))))))));", 2);
        Texts.faultyRules("a:((((((((^not))))))));", 2);
        Texts.faultyRules("a:((((((((^))))))));", 2);
        Texts.faultyRules("a:((((((((^", 2);
        String seven = "if 1=1 then 2 else if 1=1 then 2 else if 1=1 then 2 else if 1=1 then 2 else "
            + "if 1=1 then 2 else if 1=1 then 2 else if 1=1 then 2 else ";
        Texts.goodRules("a:" + seven + "3;", 1);
        Texts.faultyRules("a:" + seven + "if 1=1 then ^2 else 3;", 5);
        Texts.faultyRules("a:" + seven + "(^3);", 5);
        Texts.goodRules("a:" + seven.replace("1=1", "1+1*3=1") + "3*4+5;", 1);
        Texts.goodRules("a:if (((((((1)))))))=(((((((1))))))) then ((((((2)))))) else ((((((3))))));", 1);
        Texts.faultyRules("a:if ((((((((^1))))))))=1 then 2 else 3;", 5);
        Texts.faultyRules("a:if 1=1 then (((((((^2))))))) else 3;", 5);
        Texts.faultyRules("a:if 1=1 then 2 else (((((((^3)))))));", 5);
        Texts.goodRules("a:least(least(least(least(least(least(least(1,2),2),2),2),2),2),2);", 1);
        Texts.faultyRules("a:least(least(least(least(least(least(least(least(^1,2),2),2),2),2),2),2),2);", 5);
        Texts.faultyRules("a:least(least(least(least(least(least(least(least(^if 1=1 then 1 else 2", 2);
        Texts.faultyRules("a:least(2,most(2,least(2,most(2,least(2,most(2,least(2,(^3))))))));", 5);
        Texts.faultyRules("a:(((((((most(^1,2))))))));", 5);
        Texts.goodRules("a:1;b:(((((((a)))))));c:(((((((b)))))));", 3);
    }

    private static void wordFaults() {
        Texts.faultyRules("a:^b;", 6);
        Texts.faultyRules("a:^a;", 6);
        Texts.faultyRules("a:1+^b;b:1;", 6);
        Texts.faultyRules("a:^abcdefghijkl;", 6);
        Texts.faultyRules("a:least(1,^zz);", 6);
        Texts.faultyRules("a:if ^zz=1 then 2 else 3;", 6);
        Texts.faultyRules("a:if not ^zz=1 then 2 else 3;", 6);
        Texts.faultyRules("a:if 1=1 then ^zz else 3;", 6);
        Texts.faultyRules("a:^then;", 2);
        Texts.faultyRules("a:1*^else;", 2);
        Texts.faultyRules("a:^and;", 2);
        Texts.faultyRules("a:^or;", 2);
        Texts.faultyRules("a:^not 1=1;", 2);
        Texts.faultyRules("a:^believe;", 6);
        Texts.faultyRules("aa:1;b:^a;", 6);
        Texts.faultyRules("a:1;b:^aa;", 6);
        Texts.goodRules("a:1;b:a;", 2);
    }

    private static void firstFaultWins() {
        Texts.faultyRules("a:^b; c:#;", 6);
        Texts.faultyRules("a:1 ^1234567; b:zz;", 1);
        Texts.faultyRules("a:1;^a:zz", 4);
        Texts.faultyRules("a:((((((((^(#", 5);
    }

    private static void values() {
        Texts.value("1+2*3", "7");
        Texts.value("(1+2)*3", "9");
        Texts.value("10-3-2", "5");
        Texts.value("100/7/2", "7");
        Texts.value("100/(7/2)", "33");
        Texts.value("100%7*3", "6");
        Texts.value("2*100%7", "4");
        Texts.value("(0-7)/2", "0-3");
        Texts.value("(0-7)%2", "0-1");
        Texts.value("7/(0-2)", "0-3");
        Texts.value("7%(0-2)", "1");
        Texts.value("least(3,5)+10*most(3,5)", "53");
        Texts.value("least(0-3,5)", "0-3");
        Texts.value("server", "1");
        Texts.value("stratum", "7");
        Texts.value("ahead", "70");
        Texts.value("kind", "0-1");
        Texts.value("alike", "0");
        Texts.value("against", "0");
        Texts.value("way", "3");
        Texts.value("clock", "2");
        Texts.value("day", "730");
        Texts.value("month", "0");
        Texts.value("year", "2");
        Texts.value("(if 1<2 then 5 else 6)", "5");
        Texts.value("(if 2<1 then 5 else 6)", "6");
        Texts.value("(if 1=1 then if 1=2 then 7 else 8 else 9)", "8");
        Texts.value("(if 1=2 then 6 else if 1=2 then 7 else 8)", "8");
        // 999999 four times is 999996000005999996000001: of 64 bits, -1996229794797103359
        Texts.value("999999*999999*999999*999999/1000/1000/1000/1000", "0-1996*1000-229");
        Texts.value("999999*999999*999999*999999%1000", "0-359");
    }

    private static void noValues() {
        Texts.believes("believe:1/0;", 0);
        Texts.believes("believe:1%0;", 0);
        Texts.believes("believe:0;", 0);
        Texts.believes("believe:5;", 1);
        Texts.believes("believe:0-5;", 1);
        Texts.believes("believe:1+1/0;", 0);
        Texts.believes("believe:1/0+1;", 0);
        Texts.believes("believe:most(1,1/0);", 0);
        Texts.believes("believe:least(1%0,1);", 0);
        Texts.believes("believe:(1/0)*0+1;", 0);
        Texts.believes("believe:5/(1/0);", 0);
        Texts.believes("a:1/0;believe:a;", 0);
        Texts.believes("a:1/0;believe:1;", 1);
        Texts.believes("believe:1;a:1/0;", 1);
        Texts.believes("believe:if 1=1 then 1 else 1/0;", 1);
        Texts.believes("believe:if 1=2 then 1/0 else 1;", 1);
        Texts.believes("believe:if 1=1 then 1/0 else 1;", 0);
        Texts.believes("believe:if 1/0=1/0 then 1 else 0;", 0);
        Texts.believes("believe:if not 1/0=1 then 1 else 0;", 0);
        Texts.believes("believe:if 1/0<1 then 0 else 1;", 1);
        Texts.believes("believe:if not 1/0<1 then 0 else 1;", 1);
        Texts.believes("believe:if 1/0>1 or 1=1 then 1 else 0;", 1);
        Texts.believes("believe:if not 1%0>1 and 1=1 then 1 else 0;", 0);
        Texts.believes("believe:1;a:2;", 1);
        Texts.believes("a:0;", 1);
        Texts.believes("", 1);
        Texts.believes("a:1;believe:0;b:1;", 0);
        Texts.believes("a:0;b:a+1;c:b*b+b;believe:c-2;", 0);
    }

    private static void tests() {
        Texts.believes("believe:if 1<1 then 1 else 0;", 0);
        Texts.believes("believe:if 1>1 then 1 else 0;", 0);
        Texts.believes("believe:if 2>1 then 1 else 0;", 1);
        Texts.believes("believe:if not 1<1 then 1 else 0;", 1);
        Texts.believes("believe:if not 1=1 then 1 else 0;", 0);
        Texts.believes("believe:if 1=1 and 2=2 and 3=4 then 1 else 0;", 0);
        Texts.believes("believe:if 1=1 and 2=2 and 3=3 then 1 else 0;", 1);
        Texts.believes("believe:if 1=2 or 2=3 or 3=3 then 1 else 0;", 1);
        Texts.believes("believe:if 1=2 or 2=3 or 3=4 then 1 else 0;", 0);
        Texts.believes("believe:if not 1=2 and not 2=3 then 1 else 0;", 1);
        Texts.believes("believe:if not 1=1 or not 2=2 then 1 else 0;", 0);
        Texts.believes("believe:if 1+1=2 and least(3,4)=3 then 1 else 0;", 1);
    }

    private static void longTexts() {
        StringBuilder sum = new StringBuilder("believe:if 0");
        for (int i = 0; i < 230; i++) {
            sum.append(i % 3 == 2 ? "-1" : "+1");
        }
        Texts.believes(sum + "=78 then 1 else 0;", 1);
        Texts.believes(sum + "=77 then 1 else 0;", 0);
        StringBuilder deep = new StringBuilder("believe:");
        for (int i = 0; i < 7; i++) {
            deep.append("if 1=1 and 2=1+1*most(1,");
        }
        deep.append("1");
        for (int i = 0; i < 7; i++) {
            deep.append(") then 1 else 0");
        }
        LeapNet y = new LeapNet();
        Check.refused(y, "an if in a FEW", Check.rules(y, deep.append(";").toString(), 0), 10);
        StringBuilder full = new StringBuilder("believe:");
        for (int i = 0; i < 7; i++) {
            full.append("if 1=1 and 4=1+3*(");
        }
        full.append("1");
        for (int i = 0; i < 7; i++) {
            full.append(") then 1 else 0");
        }
        Texts.believes(full.append(";").toString(), 1);
    }
}
