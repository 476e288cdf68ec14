/** Sentences of section 2: TEXTS of rules, their TOKENS, DEFS and FAULTS, and what their NUMBERS come to. */
public final class Section2SentencesTest {
    private static final int DAY = 86_400;
    private static final String TEN_DEFS = "a:1;b:1;c:1;d:1;e:1;f:1;g:1;h:1;i:1;j:1;";
    private static final String SEVEN_BRACKETS = "(((((((";
    private static final String EIGHT_BRACKETS = "((((((((";
    private static final String[] KEY_WORDS = {"if", "then", "else", "and", "or", "not", "least", "most"};
    private static final String[] VARIABLES = {"server", "stratum", "ahead", "kind", "alike", "against", "way", "clock",
        "day", "month", "year"};

    public static void main(String[] args) {
        Sentences.run(Section2SentencesTest.class);
    }

    static void s2_textsAtMost4() {
        Sentences.says("RULES: TEXTS, at most 4");
        LeapNet x = new LeapNet();
        for (int i = 0; i < 4; i++) {
            Check.refused(x, "a FAULT is no TEXT", Check.rules(x, "a", 0), 10);
            Check.refused(x, "nor is what was refused", x.rules(1, 0), 5);
            Check.due(x, "TEXT " + i, Check.rules(x, "a:1;b:2;", i), 2, 0);
        }
        Check.refused(x, "a fifth", x.rules(0, 0), 7);
        Check.refused(x, "a fifth of another DAY", x.rules(0, 9_999), 7);
    }

    private static void dueBelieved(LeapNet x, int... due) {
        for (int i = 0; i < due.length; i++) {
            Check.due(x, "told(" + i + ", 1)", x.told(i, 1), due[i], 0);
        }
    }

    static void s2_inForceIsThatWhichBeganLatest() {
        Sentences.says("each in force from a DAY on (that which began latest; of like ones the later)");
        LeapNet x = new LeapNet();
        x.server(0);
        x.clock(0);
        int[] counts = {0, 3 * DAY - 1, 3 * DAY, 5 * DAY - 1, 5 * DAY, 900_000_000};
        for (int count : counts) {
            x.notice(0, 0, 9_999, 1, count);
        }
        dueBelieved(x, 1, 1, 1, 1, 1, 1);
        Check.rules(x, "believe:0;", 5);
        dueBelieved(x, 1, 1, 1, 1, 0, 0);
        Check.rules(x, "believe:0;", 3);
        dueBelieved(x, 1, 1, 0, 0, 0, 0);
        Check.rules(x, "believe:1;", 5);
        dueBelieved(x, 1, 1, 0, 0, 1, 1);
        Check.rules(x, "believe:0;", 0);
        dueBelieved(x, 0, 0, 0, 0, 1, 1);
        LeapNet y = new LeapNet();
        y.server(0);
        y.clock(0);
        y.notice(0, 0, 1, 1, 9_999 * DAY - 1);
        y.notice(0, 0, 1, 1, 9_999 * DAY);
        Check.rules(y, "believe:0;", 9_999);
        dueBelieved(y, 1, 0);
    }

    static void s2_textsOfAtMost500Bytes() {
        Sentences.says("of at most 500 bytes: DEFS");
        String text = "believe:1" + " ".repeat(490) + ";";
        LeapNet x = new LeapNet();
        Check.feed(x, text);
        Check.due("the tape takes no more", x.feed(0, 0, 0, 0, 0), LeapNet.NONE);
        Check.refused(x, "501 bytes", x.rules(501, 0), 5);
        Check.due(x, "500 bytes", x.rules(500, 0), 1, 0);
        LeapNet y = new LeapNet();
        Check.feed(y, text);
        Check.refused(y, "499 bytes, without the last SIGN", y.rules(499, 0), 10);
        Texts.dueFault(y, "499 bytes", 2, 499);
        Texts.faultyRules(" ".repeat(499) + "^#", 1);
        // a TOKEN for each of the bytes
        Texts.faultyRules("a:" + "1+".repeat(249) + "^", 2);
        Texts.goodRules("a:" + "1+".repeat(248) + "1;", 1);
    }

    static void s2_tokensGoAsLongAsTheyCan() {
        Sentences.says("TOKENS, as long as they go");
        Texts.goodRules("ifs:1;thenelse:ifs+ifs;", 2);
        Texts.goodRules("a:if 1<2then(3)else(4);", 1);
        Texts.goodRules("a:if1<2then 3else 4;", 1);
        Texts.faultyRules("a^1:1;", 2);
        Texts.faultyRules("a:1^b;", 2);
        Texts.faultyRules("a:1 ^2;", 2);
        Texts.faultyRules("a ^b:1;", 2);
        Texts.faultyRules("a:^ifx;", 6);
        Texts.faultyRules("a:server ^day;", 2);
        Texts.faultyRules("a:^serverday;", 6);
    }

    static void s2_blanksAre10And32() {
        Sentences.says("between them blanks (10, 32)");
        Texts.goodRules("a\n:\n1\n;\n", 1);
        Texts.goodRules("  a : 1 ;  ", 1);
        Texts.goodRules("\n", 0);
        for (char sign : new char[] {0, 9, 11, 12, 13, 31, 127, 133, 160}) {
            Texts.faultyRules("a:1^" + sign + ";", 1);
            Texts.faultyProgram("stamp^" + sign + ";", 1);
        }
    }

    static void s2_everyByteThatIsNoTokensFirst() {
        Sentences.says("WORDS (small letters), NUMBERS (1 to 6 digits), SIGNS : ; < > = + - * / % ( ) ,");
        for (int b = 0; b < 256; b++) {
            String text = "z:1;" + (char) b;
            LeapNet x = new LeapNet();
            int defs = Check.rules(x, text, 0);
            if (b == 10 || b == 32) {
                Check.due(x, "the blank " + b, defs, 1, 0);
                continue;
            }
            Check.refused(x, "the byte " + b, defs, 10);
            boolean isLetter = b >= 'a' && b <= 'z';
            boolean isToken = b >= '0' && b <= '9' || ":;<>=+-*/%(),".indexOf(b) >= 0;
            if (isLetter) {
                // a NAME, behind which the text ends; but that of z is there already
                Texts.dueFault(x, "the byte " + b, b == 'z' ? 4 : 2, b == 'z' ? 4 : 5);
            } else {
                Texts.dueFault(x, "the byte " + b, isToken ? 2 : 1, 4);
            }
        }
    }

    static void s2_numbersOf1To6Digits() {
        Sentences.says("NUMBERS (1 to 6 digits)");
        Texts.value("0", "000000");
        Texts.value("999999+1", "1000*1000");
        Texts.value("000001", "1");
        Texts.goodRules("a:123456;", 1);
        Texts.faultyRules("a:^1234567;", 1);
        Texts.faultyRules("a:^0000001;", 1);
    }

    static void s2_textOfNoDefs() {
        Sentences.says("TEXT: {DEF}.");
        Texts.goodRules("", 0);
        Texts.goodRules(" \n \n", 0);
        Texts.goodRules("a:1;", 1);
        Texts.goodRules(TEN_DEFS, 10);
        Texts.faultyRules("a:1;^;", 2);
    }

    static void s2_defOfNameAndWhole() {
        Sentences.says("DEF: NAME : WHOLE ;");
        Texts.faultyRules("a^", 2);
        Texts.faultyRules("a^;", 2);
        Texts.faultyRules("a:^", 2);
        Texts.faultyRules("a:^;", 2);
        Texts.faultyRules("a:1^", 2);
        Texts.faultyRules("a:1^:", 2);
        Texts.faultyRules("^:1;", 2);
    }

    static void s2_wholeOfIf() {
        Sentences.says("WHOLE: if TEST then WHOLE else WHOLE, or SUM.");
        Texts.goodRules("a:if 1=1 then 1 else 2;", 1);
        Texts.goodRules("a:if 1=1 then if 1=1 then 1 else 2 else if 1=1 then 1 else 2;", 1);
        Texts.faultyRules("a:if ^then 1 else 2;", 2);
        Texts.faultyRules("a:if 1=1 ^1 else 2;", 2);
        Texts.faultyRules("a:if 1=1 then ^else 2;", 2);
        Texts.faultyRules("a:if 1=1 then 1^;", 2);
        Texts.faultyRules("a:if 1=1 then 1 else ^;", 2);
        Texts.faultyRules("a:1+^if 1=1 then 1 else 2;", 2);
        Texts.believes("believe:if 1=2 then 1 else if 1=2 then 1 else if 1=1 then 0 else 1;", 0);
    }

    static void s2_testsAreNotMixed() {
        Sentences.says("TEST: ONE {and ONE}, or ONE {or ONE} (not mixed).");
        Texts.goodRules("a:if 1=1 and 1=1 and 1=1 then 1 else 2;", 1);
        Texts.goodRules("a:if 1=1 or 1=1 or 1=1 then 1 else 2;", 1);
        Texts.faultyRules("a:if 1=1 and 1=1 ^or 1=1 then 1 else 2;", 2);
        Texts.faultyRules("a:if 1=1 or 1=1 ^and 1=1 then 1 else 2;", 2);
        // in brackets stands a WHOLE, and an if there may have the other
        Texts.goodRules("a:if 1=1 and (if 1=1 or 2=2 then 1 else 2)=1 then 1 else 2;", 1);
        // each of three ONES holds, or does not
        for (int holds = 0; holds < 8; holds++) {
            String[] ones = {"1=" + (holds & 1), "2=" + (holds & 2), "4=" + (holds & 4)};
            Texts.believes("believe:if " + String.join(" and ", ones) + " then 1 else 0;", holds == 7 ? 1 : 0);
            Texts.believes("believe:if " + String.join(" or ", ones) + " then 1 else 0;", holds == 0 ? 0 : 1);
        }
    }

    static void s2_oneComparesTwoSums() {
        Sentences.says("ONE: [not] SUM COMPARES SUM. COMPARES: < > =");
        Texts.faultyRules("a:if 1 ^then 1 else 2;", 2);
        Texts.faultyRules("a:if 1<^=2 then 1 else 2;", 2);
        Texts.faultyRules("a:if 1<2^<3 then 1 else 2;", 2);
        Texts.faultyRules("a:if not ^not 1=1 then 1 else 2;", 2);
        String[] ones = {"1<2", "1<1", "2<1", "1>2", "1>1", "2>1", "1=2", "1=1", "2=1"};
        int[] holds = {1, 0, 0, 0, 0, 1, 0, 1, 0};
        for (int i = 0; i < ones.length; i++) {
            Texts.believes("believe:if " + ones[i] + " then 1 else 0;", holds[i]);
            Texts.believes("believe:if not " + ones[i] + " then 1 else 0;", 1 - holds[i]);
        }
    }

    static void s2_sumsAndItemsFromTheLeft() {
        Sentences.says("SUM: ITEM {+ ITEM, or - ITEM}. ITEM: ATOM {* ATOM, or / ATOM, or % ATOM}.");
        Texts.value("9-3-2+1", "5");
        Texts.value("2+3*4", "14");
        Texts.value("100/7*2%9", "1");
        Texts.value("100%7/2", "1");
        Texts.faultyRules("a:^-1;", 2);
        Texts.faultyRules("a:1+^+1;", 2);
        Texts.faultyRules("a:1*^;", 2);
    }

    static void s2_atoms() {
        Sentences.says("ATOM: NUMBER, VARIABLE, the NAME of a DEF ahead, ( WHOLE ), or FEW ( SUM , SUM ). FEW: least, most.");
        Texts.goodRules("a:1;b:a;c:b+a;", 3);
        Texts.faultyRules("a:^a;", 6);
        Texts.faultyRules("a:^b;b:1;", 6);
        Texts.faultyRules("a:(^);", 2);
        Texts.faultyRules("a:(1^;", 2);
        Texts.faultyRules("a:least ^1;", 2);
        Texts.faultyRules("a:least(^,1);", 2);
        Texts.faultyRules("a:least(1^);", 2);
        Texts.faultyRules("a:most(1,^);", 2);
        Texts.faultyRules("a:most(1,1^,1);", 2);
        Texts.faultyRules("a:most(^if 1=1 then 1 else 2,1);", 2);
        Texts.faultyRules("a:most(1,^if 1=1 then 1 else 2);", 2);
        Texts.value("least(2,2)+least(1,2)*10+least(2,1)*100", "112");
        Texts.value("most(2,2)+most(1,2)*10+most(2,1)*100", "222");
    }

    static void s2_nameOf1To8Letters() {
        Sentences.says("NAME: a WORD of 1 to 8 letters that is no VARIABLE, nor if, then, else, and, or, not, least, most.");
        Texts.goodRules("a:1;abcdefgh:a;", 2);
        Texts.faultyRules("^abcdefghi:1;", 2);
        for (String word : KEY_WORDS) {
            Texts.faultyRules("^" + word + ":1;", 2);
            Texts.goodRules(word + "x:1;", 1);
        }
        for (String word : VARIABLES) {
            Texts.faultyRules("^" + word + ":1;", 2);
        }
    }

    static void s2_variables() {
        Sentences.says("VARIABLES: server, stratum, ahead, kind, alike, against, way, clock, day, month, year.");
        for (String word : VARIABLES) {
            Texts.goodRules("a:" + word + ";", 1);
            Texts.faultyRules("a:^" + word + "s;", 6);
        }
    }

    static void s2_theFirstFaultAlongTheText() {
        Sentences.says("FAULTS, the first along the text (of one TOKEN the least kind)");
        Texts.faultyRules("a:^b;#", 6);
        Texts.faultyRules("a:1;^a:#;", 4);
        Texts.faultyRules("a:1 ^# b", 1);
        Texts.faultyRules(TEN_DEFS + "^k:#;", 3);
        Texts.faultyRules("a:" + EIGHT_BRACKETS + "^1 1234567", 5);
    }

    static void s2_ofOneTokenTheLeastKind() {
        Sentences.says("(of one TOKEN the least kind)");
        Texts.faultyRules("a:" + EIGHT_BRACKETS + "^#", 1);
        Texts.faultyRules("a:" + EIGHT_BRACKETS + "^1234567", 1);
        Texts.faultyRules("a:" + EIGHT_BRACKETS + "^unknown", 5);
        Texts.faultyRules("a:" + EIGHT_BRACKETS + "^unknownbylength", 5);
        Texts.faultyRules(TEN_DEFS + "^#", 1);
        Texts.faultyRules(TEN_DEFS + "^day:1;", 2);
        Texts.faultyRules(TEN_DEFS + "^abcdefghi:1;", 2);
        Texts.faultyRules(TEN_DEFS + "^;", 2);
        Texts.faultyRules(TEN_DEFS + "^a:1;", 3);
    }

    static void s2_fault1NoTokenBeginsSo() {
        Sentences.says("1 no TOKEN begins so (a NUMBER of 7 digits and more: at its first).");
        Texts.faultyRules("^A:1;", 1);
        Texts.faultyRules("a:1^A;", 1);
        Texts.faultyRules("a^_b:1;", 1);
        Texts.faultyRules("a:1+^1234567;", 1);
        Texts.faultyRules("a:^" + "9".repeat(40) + ";", 1);
        Texts.faultyRules("a:^1234567", 1);
        Texts.faultyRules("a:^{1};", 1);
        Texts.faultyRules("a:1;^}", 1);
    }

    static void s2_fault2ItCannotStandThere() {
        Sentences.says("2 it can't stand there (the end: the text's length).");
        Texts.faultyRules("a^", 2);
        Texts.faultyRules("a \n ^", 2);
        Texts.faultyRules("a:1^", 2);
        Texts.faultyRules("a:1+  ^", 2);
        Texts.faultyRules("a:if 1=1 then 1 else^", 2);
        Texts.faultyRules("a:least(1,1^", 2);
        Texts.faultyRules("^1;", 2);
        // the end of the text, not that of the tape
        LeapNet x = new LeapNet();
        Check.feed(x, "a:1;b:2;");
        Check.refused(x, "rules(7, 0)", x.rules(7, 0), 10);
        Texts.dueFault(x, "rules(7, 0)", 2, 7);
    }

    static void s2_fault3An11thDef() {
        Sentences.says("3 an 11th DEF (at its NAME).");
        Texts.goodRules(TEN_DEFS, 10);
        Texts.goodRules(TEN_DEFS + " \n", 10);
        Texts.faultyRules(TEN_DEFS + "^k:1;", 3);
        Texts.faultyRules(TEN_DEFS + "  ^k", 3);
    }

    static void s2_fault4ANameThereIsAlready() {
        Sentences.says("4 a NAME there is already.");
        Texts.faultyRules("a:1;^a:2;", 4);
        Texts.faultyRules("a:1;b:2;c:3; ^b", 4);
        Texts.faultyRules("abcdefgh:1;^abcdefgh:2;", 4);
        Texts.goodRules("a:1;aa:2;ab:3;ba:4;", 4);
        Texts.goodRules("abcdefgh:1;abcdefg:2;a:3;", 3);
        Texts.goodRules("abcdefgh:1;abcdefgi:2;", 2);
        // a TEXT has its own NAMES
        LeapNet x = new LeapNet();
        Check.due(x, "a TEXT", Check.rules(x, "a:1;", 0), 1, 0);
        Check.due(x, "another", Check.rules(x, "a:2;", 0), 1, 0);
    }

    static void s2_fault5DeeperThan8() {
        Sentences.says("5 it is deeper than 8 (a WHOLE in an if or in brackets, a SUM in a FEW, is one deeper than that around it; "
            + "a DEF's own is 1)");
        Texts.goodRules("a:" + SEVEN_BRACKETS + "1)))))));", 1);
        Texts.faultyRules("a:" + EIGHT_BRACKETS + "^1))))))));", 5);
        String seven = "if 1=1 then 1 else ".repeat(7);
        Texts.goodRules("a:" + seven + "1;", 1);
        Texts.faultyRules("a:" + seven + "if 1=1 then ^1 else 1;", 5);
        Texts.faultyRules("a:" + seven + "(^1);", 5);
        Texts.faultyRules("a:" + seven + "least(^1,1);", 5);
        String fewer = "least(1,".repeat(7);
        Texts.goodRules("a:" + fewer + "1)))))));", 1);
        Texts.faultyRules("a:" + fewer + "most(^1,1))))))));", 5);
        Texts.faultyRules("a:" + fewer + "(^1))))))));", 5);
        // the SUMS of a TEST are as deep as its if
        Texts.goodRules("a:if " + SEVEN_BRACKETS + "1)))))))=1 then 1 else 1;", 1);
        Texts.faultyRules("a:if " + EIGHT_BRACKETS + "^1", 5);
        Texts.faultyRules("a:if 1=1 then " + SEVEN_BRACKETS + "^1", 5);
        Texts.faultyRules("a:if 1=1 then 1 else " + SEVEN_BRACKETS + "^1", 5);
        Texts.goodRules("a:if 1=1 then ((((((1)))))) else ((((((1))))));", 1);
        // what is closed counts no more, and a NAME is no depth
        Texts.goodRules("a:(1)+(1)+(1)+(1)+(1)+(1)+(1)+(1)+(1);", 1);
        Texts.goodRules("a:" + SEVEN_BRACKETS + "1)))))));b:" + SEVEN_BRACKETS + "a)))))));", 2);
    }

    static void s2_fault5AtItsFirstTokenIfThatCanBeginIt() {
        Sentences.says("at its first TOKEN, if that can begin it (any WORD that is no key word can).");
        for (String begins : new String[] {"1", "(", "if", "least", "most", "day", "a", "zz", "abcdefghijkl"}) {
            Texts.faultyRules("a:1;b:" + EIGHT_BRACKETS + "^" + begins, 5);
        }
        for (String can : new String[] {"then", "else", "and", "or", "not", ")", ",", ";", ":", "<", "+", "-", ""}) {
            Texts.faultyRules("a:1;b:" + EIGHT_BRACKETS + "^" + can, 2);
        }
        String fews = "least(".repeat(8);
        for (String begins : new String[] {"1", "(", "most", "day", "zz"}) {
            Texts.faultyRules("a:" + fews + "^" + begins, 5);
        }
        // a SUM can't begin with an if
        Texts.faultyRules("a:" + fews + "^if", 2);
        Texts.faultyRules("a:" + fews + "^then", 2);
    }

    static void s2_fault6AWordThatIsNone() {
        Sentences.says("6 a WORD, where an ATOM must begin, that is none of these, nor a key word (that: 2).");
        for (String ahead : new String[] {"a:", "a:1+", "a:1*", "a:(", "a:least(", "a:least(1,", "a:if ", "a:if not ",
            "a:if 1<", "a:if 1=1 and ", "a:if 1=1 then ", "a:if 1=1 then 1 else "}) {
            Texts.faultyRules(ahead + "^zz", 6);
            Texts.faultyRules(ahead + "^abcdefghijkl", 6);
            Texts.faultyRules(ahead + "^then", 2);
            Texts.faultyRules(ahead + "^or", 2);
        }
        // a NAME is a whole WORD
        Texts.faultyRules("aa:1;b:^a;", 6);
        Texts.faultyRules("a:1;b:^aa;", 6);
        // where no ATOM can begin it is of kind 2
        Texts.faultyRules("a:1 ^zz", 2);
        Texts.faultyRules("a ^zz", 2);
        Texts.faultyRules("a:least ^zz", 2);
    }

    static void s2_numbersOf64BitsRoundOn() {
        Sentences.says("NUMBERS are of 64 bits, round on");
        String least = "m:65536*65536*65536*32768;";
        Texts.believes(least + "believe:if m<0 and m-1>0 and m-1+1=m then 1 else 0;", 1);
        Texts.believes(least + "believe:if 0-m=m then 1 else 0;", 1);
        Texts.believes(least + "believe:m*2;", 0);
        Texts.believes(least + "believe:m+m;", 0);
        Texts.believes("believe:65536*65536*65536*65536;", 0);
        Texts.believes("believe:65536*65536*65536*65536+1;", 1);
        // no 32 bits anywhere: what is 0 in those is not
        Texts.believes("believe:65536*65536;", 1);
        Texts.believes("believe:if 65536*65536+1=1 then 1 else 0;", 0);
        Texts.believes("believe:if 65536*32768<0 then 1 else 0;", 0);
    }

    static void s2_dividesAsTheMachine() {
        Sentences.says("/ and % as the machine's");
        Texts.value("7/2", "3");
        Texts.value("(0-7)/2", "0-3");
        Texts.value("7/(0-2)", "0-3");
        Texts.value("(0-7)/(0-2)", "3");
        Texts.value("7%2", "1");
        Texts.value("(0-7)%2", "0-1");
        Texts.value("7%(0-2)", "1");
        Texts.value("(0-7)%(0-2)", "0-1");
        Texts.value("1/2", "0");
        Texts.value("7/1", "7");
        Texts.value("7/(0-1)", "0-7");
        Texts.value("7%1", "0");
        Texts.value("0/7", "0");
        String least = "m:65536*65536*65536*32768;";
        Texts.believes(least + "believe:if m/(0-1)=m and m%(0-1)=0 then 1 else 0;", 1);
    }

    static void s2_by0ThereIsNone() {
        Sentences.says("by 0 there is none, and none in what it is in (a ONE with none does not hold, nor does not of it).");
        for (String none : new String[] {"1/0", "1%0", "0/0", "1/(1-1)", "1+1/0", "1/0-1", "2*(1/0)", "1/0*0", "0/(1/0)",
            "least(1,1/0)", "most(1/0,1)", "(1/0)", "if 1=1 then 1/0 else 1", "if 1=2 then 1 else 1%0"}) {
            Texts.believes("believe:" + none + ";", 0);
            Texts.believes("a:" + none + ";believe:a;", 0);
            Texts.believes("a:" + none + ";believe:a+1;", 0);
            Texts.believes("a:" + none + ";believe:if a=a then 1 else 0;", 0);
            Texts.believes("a:" + none + ";believe:if not a=a then 1 else 0;", 0);
            Texts.believes("a:" + none + ";believe:if 1<a then 1 else 0;", 0);
            Texts.believes("a:" + none + ";believe:if not 1>a then 1 else 0;", 0);
            Texts.believes("a:" + none + ";believe:if not 1>a or 1=1 then 1 else 0;", 1);
            Texts.believes("a:" + none + ";believe:1;", 1);
        }
    }
}
