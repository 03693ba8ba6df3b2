/** The boundary cases of how a TEXT is read, of its FAULT, and of what its E is. */
public final class TextBoundsTest {
    private static final Sentences S = new Sentences();
    // the greatest int, by NUMBERS of 4 digits
    private static final String MOST = "(2147*1000*1000+483*1000+647)";

    public static void main(String[] args) {
        S.of("TOKENS, each as long as can be", TextBoundsTest::asLongAsCanBe);
        S.of("WORDS (a .. z)", TextBoundsTest::words);
        S.of("NUMBERS (as many digits as stand there, 4 at most)", TextBoundsTest::numbers);
        S.of("SIGNS ( ) ; + - * < =", TextBoundsTest::signs);
        S.of("blanks (32, 10) may stand between", TextBoundsTest::blanks);
        S.of("TEXT: soak E ; leak E ; dries E ;", TextBoundsTest::threeParts);
        S.of("E: AND { or AND }", TextBoundsTest::ors);
        S.of("AND: NOT { and NOT }", TextBoundsTest::ands);
        S.of("NOT: not NOT, or SUM, perhaps < or = and a SUM", TextBoundsTest::nots);
        S.of("SUM: TERM { + or - TERM }", TextBoundsTest::sums);
        S.of("TERM: ONE { * ONE }", TextBoundsTest::terms);
        S.of("ONE: a NUMBER, a NAME, - ONE, ( E )", TextBoundsTest::ones);
        S.of("NAMES are .. ; soak, leak, dries, or, and, not are KEYS", TextBoundsTest::namesAndKeys);
        S.of("An E is an int (32 bits, wrapping): +", TextBoundsTest::plusWraps);
        S.of("An E is an int (32 bits, wrapping): -", TextBoundsTest::minusWraps);
        S.of("An E is an int (32 bits, wrapping): *", TextBoundsTest::timesWraps);
        S.of("An E is an int (32 bits, wrapping): - ONE", TextBoundsTest::turnWraps);
        S.of("An E is an int (32 bits, wrapping): < and =", TextBoundsTest::comparedAtTheEnds);
        S.of("An E is an int (32 bits, wrapping): what comes of it", TextBoundsTest::wrappedAndBound);
        S.of("of or, and, not, <, = 1 or 0", TextBoundsTest::oneOrZero);
        S.of("what is not 0 is true", TextBoundsTest::notZeroIsTrue);
        S.of("FAULT: the place of the first byte of the first TOKEN that can't stand there", TextBoundsTest::firstThatCantStand);
        S.of("the text's size, if it ends too early", TextBoundsTest::tooEarly);
        S.of("also of a byte that begins none", TextBoundsTest::beginsNone);
        S.of("a WORD that is neither KEY nor NAME", TextBoundsTest::strangeWord);
        S.of("a NUMBER that is too long", TextBoundsTest::longNumber);
        S.of("a ( .. while 5 of these are open", TextBoundsTest::fiveOpen);
        S.of("a not .. while 5 of these are open", TextBoundsTest::fiveNots);
        S.of("a - ahead of a ONE while 5 of these are open", TextBoundsTest::fiveTurns);
        S.of("while 5 of these are open: of each sort some", TextBoundsTest::fiveMixed);
        S.of("a ( till its )", TextBoundsTest::tillItsEnd);
        S.of("not .. till what they belong to ends", TextBoundsTest::notTillItEnds);
        S.of("- till what they belong to ends", TextBoundsTest::turnTillItEnds);
        S.end();
    }

    private static void text(String text, int want) {
        S.due("text() of " + text.replace("\n", "\\n"), Boats.text(new DriedOut(), text), want);
    }

    private static void stands(String e) {
        text("soak " + e + ";leak 1;dries 1;", 1);
        text("soak 1;leak " + e + ";dries 1;", 1);
        text("soak 1;leak 1;dries " + e + ";", 1);
    }

    /** The place is that in the E, which begins the byte behind its KEY and a blank. */
    private static void fault(String e, int place) {
        text("soak " + e + ";leak 1;dries 1;", -100 - 5 - place);
        text("soak 1;leak " + e + ";dries 1;", -100 - 12 - place);
        text("soak 1;leak 1;dries " + e + ";", -100 - 20 - place);
    }

    private static void value(String e, int want) {
        S.due("the value of " + e, Boats.soak(e), want);
    }

    private static void asLongAsCanBe() {
        text("soaks 1;leak 1;dries 1;", -100);
        text("soakleak 1;leak 1;dries 1;", -100);
        text("soakwet;leak 1;dries 1;", -100);
        text("soak1;leak1;dries1;", 1);
        fault("wetdry", 0);
        fault("notwet", 0);
        fault("1orwet", 1);
        fault("wet+drydry", 4);
        stands("1or wet");
        stands("not 1and 2or 3");
        stands("1+(wet)and(dry)or(near)");
        fault("12 34", 3);
        stands("1234");
        value("10", 10);
        value("1+0", 1);
    }

    private static void words() {
        for (String name : new String[] {"wet", "dry", "near", "old", "day", "salt"}) stands(name);
        // each of a .. z makes a WORD longer, so that the FAULT is at its start; what is beside them doesn't
        for (char c = 'a'; c <= 'z'; c++) {
            fault("wet" + c, 0);
            fault("" + c, 0);
        }
        for (char c : new char[] {'`', '{', '@', '[', 'A', 'Z', '_', '\'', '"', '.', '\u00e9'}) {
            fault("wet" + c, 3);
            fault("" + c, 0);
        }
        fault("Wet", 0);
        fault("WET", 0);
        fault("weT", 0);
        text("Soak 1;leak 1;dries 1;", -100);
    }

    private static void numbers() {
        for (String n : new String[] {"0", "9", "10", "99", "100", "999", "1000", "9999", "0000", "0009", "01", "1234"}) stands(n);
        for (String n : new String[] {"10000", "00000", "99999", "00001", "123456", "123456789", "0000000000"}) fault(n, 0);
        for (char c : new char[] {'/', ':'}) {
            fault("1" + c, 1);
            fault("" + c, 0);
        }
        for (char c = '0'; c <= '9'; c++) {
            stands("" + c);
            value("" + c, c - '0');
        }
        value("9999=10*1000-1", 1);
        value("0009", 9);
        value("0100", 100);
        value("0012", 12);
        // 160 bytes of digits are one NUMBER
        text("0".repeat(160), -100);
        text("soak " + "0".repeat(155), -105);
    }

    private static void signs() {
        stands("(1)");
        stands("1+1");
        stands("1-1");
        stands("1*1");
        stands("1<1");
        stands("1=1");
        for (char c : new char[] {'\'', ',', '.', '/', ':', '>', '?', '!', '%', '&', '|', '^', '~', '#', '$', '\\', ']', '}'}) {
            fault("1" + c + "1", 1);
        }
        // signs are of one byte each
        fault("1==1", 2);
        fault("1<=1", 2);
        fault("1++1", 2);
        fault("1**1", 2);
        stands("1--1");
    }

    private static void blanks() {
        text(" \n\nsoak\n1 \n;\nleak 1\n;dries\n\n1 ; \n", 1);
        text("soak 1;leak 1;dries 1;\n", 1);
        text("\nsoak 1;leak 1;dries 1;", 1);
        stands(" 1 ");
        stands("\n1\n+\n1\n");
        text("soak\n\n\n1;leak 1;dries 1;", 1);
        for (char c : new char[] {0, 9, 11, 12, 13, 31, 33, 127, 160, 133, 138, 255}) {
            fault("1" + c, 1);
            fault("" + c + "1", 0);
            text("soak 1;leak 1;dries 1;" + c, -122);
            text(c + "soak 1;leak 1;dries 1;", -100);
        }
        text("so ak 1;leak 1;dries 1;", -100);
        fault("we t", 0);
        fault("1 2", 2);
        fault("1\n2", 2);
    }

    private static void threeParts() {
        text("soak 1;leak 1;dries 1;", 1);
        text("leak 1;dries 1;", -100);
        text("soak 1;dries 1;", -107);
        text("soak 1;leak 1;", -114);
        text("leak 1;soak 1;dries 1;", -100);
        text("soak 1;dries 1;leak 1;", -107);
        text("soak 1;soak 1;leak 1;dries 1;", -107);
        text("soak 1;leak 1;leak 1;dries 1;", -114);
        text("soak 1 leak 1;dries 1;", -107);
        text("soak 1;leak 1 dries 1;", -114);
        text("soak 1;leak 1;dries 1", -121);
        text("soak;leak 1;dries 1;", -104);
        text("soak 1;leak;dries 1;", -111);
        text("soak 1;leak 1;dries;", -119);
        text("soak 1;;leak 1;dries 1;", -107);
        text("soak 1;leak 1;dries 1;;", -122);
        text("soak 1;leak 1;dries 1; soak 1;", -123);
        text("soak 1;leak 1;dries 1; 1", -123);
        text(";", -100);
        text("1", -100);
        text("(", -100);
    }

    private static void ors() {
        stands("1 or 1");
        stands("1 or 1 or 1 or 1 or 1 or 1 or 1 or 1 or 1");
        fault("1 or", 4);
        fault("or 1", 0);
        fault("1 or or 1", 5);
        fault("1 or and 1", 5);
        value("0 or 0 or 0", 0);
        value("0 or 0 or 1", 1);
        value("1 or 0 or 0", 1);
    }

    private static void ands() {
        stands("1 and 1");
        stands("1 and 1 and 1 and 1 and 1 and 1 and 1");
        fault("1 and", 5);
        fault("and 1", 0);
        fault("1 and and 1", 6);
        fault("1 and or 1", 6);
        value("1 and 1 and 1", 1);
        value("1 and 1 and 0", 0);
        value("0 and 1 and 1", 0);
        value("1 or 1 and 0", 1);
        value("0 and 1 or 1", 1);
        value("0 and (1 or 1)", 0);
    }

    private static void nots() {
        stands("not 1");
        stands("not not 1");
        stands("not 1<1");
        fault("not", 3);
        fault("not or 1", 4);
        fault("not <1", 4);
        fault("1<not 1", 2);
        fault("1=not 1", 2);
        fault("1+not 1", 2);
        fault("1-not 1", 2);
        fault("1*not 1", 2);
        fault("-not 1", 1);
        fault("1 not 1", 2);
        stands("(not 1)+1");
        stands("-(not 1)");
        stands("1<(not 1)");
        stands("1<1");
        stands("1=1");
        fault("1<", 2);
        fault("1=", 2);
        fault("<1", 0);
        fault("=1", 0);
        fault("1<1<1", 3);
        fault("1<1=1", 3);
        fault("1=1<1", 3);
        fault("1=1=1", 3);
        fault("not 1<1<1", 7);
        stands("(1<1)<1");
        stands("1<(1<1)");
        stands("1<1 and 1<1 or 1=1");
        // the whole comparison is under the not, the and is not
        value("not 1<1", 1);
        value("not 0=0", 0);
        value("not 2+0=2", 0);
        value("not 0 and 0", 0);
        value("not 1 or 1", 1);
        value("not not 7", 1);
    }

    private static void sums() {
        stands("1+1-1+1-1-1+1");
        fault("1+", 2);
        fault("1-", 2);
        fault("+1", 0);
        fault("1+ +1", 3);
        fault("1-+1", 2);
        stands("1+-1");
        stands("1- -1");
        value("9-3-2", 4);
        value("9-3+2", 8);
        value("9-(3-2)", 8);
        value("2+3*4", 14);
        value("1+1<3", 1);
        value("3<1+1", 0);
    }

    private static void terms() {
        stands("1*1*1*1*1");
        fault("1*", 2);
        fault("*1", 0);
        fault("1*+1", 2);
        fault("1**1", 2);
        stands("1*-1");
        value("2*3*4", 24);
        value("2*3+4", 10);
        value("0*9", 0);
    }

    private static void ones() {
        fault("()", 1);
        fault("(", 1);
        fault("(1", 2);
        fault("(1))", 3);
        fault(")", 0);
        fault("1(1)", 1);
        fault("(1)(1)", 3);
        fault("(1)1", 3);
        fault("wet wet", 4);
        fault("wet 1", 4);
        fault("1wet", 1);
        fault("-", 1);
        fault("-;", 1);
        fault("-+1", 1);
        fault("(-)", 2);
        fault("", 0);
        fault("(1;", 2);
        stands("(1 or 1)");
        stands("(not 1)");
        stands("(1<1)");
        stands("-wet");
        stands("-(1)");
        stands("--1");
        value("-3*-3", 9);
        value("-3+5", 2);
        value("5- -3", 8);
        value("--4", 4);
        value("-(2+3)+9", 4);
        value("(2+3)*4", 20);
    }

    private static void namesAndKeys() {
        for (String key : new String[] {"soak", "leak", "dries", "or", "and"}) {
            fault(key, 0);
            fault("1+" + key, 2);
            fault("(" + key + ")", 1);
        }
        fault("1+not", 2);
        for (String name : new String[] {"wet", "dry", "near", "old", "day", "salt"}) {
            text(name + " 1;leak 1;dries 1;", -100);
            text("soak 1;" + name + " 1;dries 1;", -107);
            fault("1 " + name, 2);
        }
    }

    private static void plusWraps() {
        value(MOST + "+0<0", 0);
        value(MOST + "+1<0", 1);
        value(MOST + "+1=-" + MOST + "-1", 1);
        value(MOST + "+" + MOST + "=-2", 1);
        value(MOST + "+1+" + MOST + "+1=0", 1);
    }

    private static void minusWraps() {
        value("-" + MOST + "-1<0", 1);
        value("-" + MOST + "-2<0", 0);
        value("-" + MOST + "-2=" + MOST, 1);
        value("0-" + MOST + "-1-" + MOST + "=1", 1);
    }

    private static void timesWraps() {
        value("9999*9999*21<0", 0);
        value("9999*9999*22<0", 1);
        value("4096*4096*128<0", 1);
        value("4096*4096*128=-" + MOST + "-1", 1);
        value("4096*4096*256=0", 1);
        value(MOST + "*" + MOST + "=1", 1);
        value(MOST + "*2=-2", 1);
        value("1000*1000*1000*1000=-727*1000*1000-379*1000-968", 1);
    }

    private static void turnWraps() {
        value("-(-" + MOST + "-1)<0", 1);
        value("-(-" + MOST + "-1)=-" + MOST + "-1", 1);
        value("--" + MOST + "=" + MOST, 1);
        value("-(4096*4096*128)=4096*4096*128", 1);
    }

    private static void comparedAtTheEnds() {
        String least = "-" + MOST + "-1";
        value(least + "<" + MOST, 1);
        value(MOST + "<" + least, 0);
        value(least + "=" + least, 1);
        value(least + "<" + least, 0);
        value(MOST + "<" + MOST, 0);
        value(least + "=" + MOST, 0);
        value(least + "<0", 1);
        value("0<" + least, 0);
        value("4096*4096*256<1", 1);
    }

    private static void wrappedAndBound() {
        value("4096*4096*256+7", 7);
        value("4096*4096*256-7", 0);
        value(MOST + "+1", 0);
        value("-" + MOST + "-2", 100);
        value("4096*4096*128+4096*4096*128+42", 42);
        DriedOut x = Boats.planks(Boats.ruled("soak 0;leak 4096*4096*256+998;dries 4096*4096*256+3;"), 2);
        x.set(2, 0, 1);
        x.set(0, 0, 50);
        S.due("leak 998 and all 32 bits", x.comes(), 998);
        x.air(1);
        S.due("dries 3 and all 32 bits", x.told(0, 2), 47);
        DriedOut y = Boats.planks(Boats.ruled("soak 0;leak " + MOST + "+1;dries " + MOST + "+1;"), 2);
        y.set(2, 0, 1);
        y.set(0, 0, 50);
        S.due("leak far below 0", y.comes(), 0);
        y.air(1);
        S.due("dries far below 0", y.told(0, 2), 50);
    }

    private static void oneOrZero() {
        String[] one = {"7 or 0", "0 or 7", "7 or 9", "7 and 9", "2 and 4", "not 0", "7<9", "7=7", "-9 or 0", "-9 and 7"};
        String[] zero = {"0 or 0", "0 and 7", "7 and 0", "0 and 0", "not 7", "not 1", "7<7", "9<7", "7=9", "not -1"};
        for (String e : one) value("(" + e + ")*5", 5);
        for (String e : zero) value("(" + e + ")*5", 0);
    }

    private static void notZeroIsTrue() {
        for (String e : new String[] {"1", "2", "-1", "-2", "9999", "-9999", MOST, "(-" + MOST + "-1)", "4096*4096*128", "256"}) {
            value("not " + e, 0);
            value(e + " or 0", 1);
            value("0 or " + e, 1);
            value(e + " and 1", 1);
            value("1 and " + e, 1);
        }
        for (String e : new String[] {"0", "-0", "4096*4096*256", "1-1", "(1<1)"}) {
            value("not " + e, 1);
            value(e + " or 0", 0);
            value(e + " and 1", 0);
        }
    }

    private static void firstThatCantStand() {
        text("x", -100);
        text(" x", -101);
        text("soak ) x @", -105);
        text("soak 1 2 99999", -107);
        text("soak x ) (", -105);
        text("soak 1;leak ) ;dries", -112);
        text("soak 12345 x", -105);
        text("soak @ x", -105);
        text("soak 1 + + x", -109);
        // a WORD's place is that of its first byte, the faults behind it do not matter
        text("soak   wetter  ", -107);
        text("soak 1;leak 1;dries 1;    soak", -126);
        fault("1 + dry dry", 8);
        fault("((1) (1))", 5);
    }

    private static void tooEarly() {
        text("", -100);
        text(" ", -101);
        text("\n\n", -102);
        text("soak", -104);
        text("soak ", -105);
        text("soak 1", -106);
        text("soak 1 ", -107);
        text("soak 1;", -107);
        text("soak 1;\n\n", -109);
        text("soak 1;leak", -111);
        text("soak 1;leak 1;dries 1", -121);
        text("soak 1;leak 1;dries 1 ", -122);
        text("soak (1", -107);
        text("soak 1+", -107);
        text("soak -", -106);
        text("soak not", -108);
        text("soak 1<", -107);
        text("soak 1 or", -109);
        text("soak (((((1", -111);
        text("soak 1" + " ".repeat(154), -260);
    }

    private static void beginsNone() {
        for (int b = 0; b < 256; b++) {
            boolean begins = b == 32 || b == 10 || b >= '0' && b <= '9' || b >= 'a' && b <= 'z' || "();+-*<=".indexOf(b) >= 0;
            if (!begins) text("soak 1" + (char) b, -106);
            if (!begins) text("soak 1;leak 1;dries 1;" + (char) b, -122);
            if (!begins) text("" + (char) b, -100);
        }
        fault("wet@", 3);
        fault("1+@", 2);
        fault("@@", 0);
    }

    private static void strangeWord() {
        for (String word : new String[] {"we", "wett", "et", "wat", "wex", "bet", "sal", "salts", "nea", "nears", "ol", "olds", "da", "days", "dr", "drys"}) {
            fault(word, 0);
            fault("1+" + word, 2);
        }
        for (String word : new String[] {"o", "ors", "an", "ands", "no", "nots", "xor"}) fault("1 " + word + " 1", 2);
        for (String word : new String[] {"soa", "soaks", "oak", "x"}) text(word + " 1;leak 1;dries 1;", -100);
        for (String word : new String[] {"lea", "leaks", "eak", "x"}) text("soak 1;" + word + " 1;dries 1;", -107);
        for (String word : new String[] {"drie", "driess", "ries", "dry"}) text("soak 1;leak 1;" + word + " 1;", -114);
    }

    private static void longNumber() {
        stands("9999");
        fault("99990", 0);
        fault("1+99990", 2);
        fault("(10000)", 1);
        fault("1*00001+1", 2);
        stands("9999+9999");
        fault("wet 10000", 4);
    }

    private static void fiveOpen() {
        stands("((((1))))");
        stands("(((((1)))))");
        fault("((((((1))))))", 5);
        fault("(((((((1)))))))", 5);
        fault("(((((()", 5);
        fault("1+(((((1+(1))))))", 9);
    }

    private static void fiveNots() {
        stands("not not not not 1");
        stands("not not not not not 1");
        fault("not not not not not not 1", 20);
        fault("not not not not not not", 20);
        value("not not not not not 0", 1);
        fault("1 and not not not not not not 1", 26);
    }

    private static void fiveTurns() {
        stands("----1");
        stands("-----1");
        fault("------1", 5);
        fault("------", 5);
        value("-----0+7", 7);
        stands("1------1");
        fault("1-------1", 7);
        fault("1*------1", 7);
        stands("1*-----1");
    }

    private static void fiveMixed() {
        stands("not(-(-1))");
        fault("not(-(-(1)))", 7);
        fault("not(-(--1))", 7);
        fault("not(-(-(not 1)))", 7);
        fault("(not(-(not 1)))", 7);
        stands("(not(-(1)))");
        fault("(not(-(-1)))", 7);
        fault("-(-(-(1)))", 5);
        stands("-(-(-1))");
        stands("not not(-(1))");
        fault("not not(-(not 1))", 10);
        fault("((((not(1)))))", 7);
        fault("((((not not 1))))", 8);
        fault("((((-(1)))))", 5);
        fault("((((--1))))", 5);
        fault("-----(1)", 5);
        fault("not not not not not(1)", 19);
        fault("not not not not not-1", 19);
        fault("(((((not 1)))))", 5);
        fault("(((((-1)))))", 5);
        stands("(((((wet)))))");
        stands("(((((1-1)))))");
        stands("(((((1 and 1<1 or 1*1+1)))))");
    }

    private static void tillItsEnd() {
        stands("(1)+(1)+(1)+(1)+(1)+(1)+(1)");
        stands("(((((1)))))+(((((1)))))*(((((1)))))<(((((1)))))");
        stands("((((1)+(1))+(1))+(1))+(((((1)))))");
        stands("((((1)))+((1)))+(1)");
        stands("((((1))+(((1)))))");
        fault("((((1))+((((1))))))", 11);
        stands("(((1))+((((1)))))");
        fault("(((1))+(((((1))))))", 11);
        text("soak (((((1)))));leak (((((1)))));dries (((((1)))));", 1);
        fault("(((((1)))))+((((((1))))))", 17);
    }

    private static void notTillItEnds() {
        // under a not: its SUM, what it is compared with, not what stands behind an and, an or, a )
        stands("not ((((1))))");
        fault("not (((((1)))))", 8);
        stands("not 1+((((1))))");
        fault("not 1+(((((1)))))", 10);
        fault("not 1*(((((1)))))", 10);
        stands("not 1<((((1))))");
        fault("not 1<(((((1)))))", 10);
        fault("not 1=(((((1)))))", 10);
        stands("not 1 and (((((1)))))");
        stands("not 1 or (((((1)))))");
        stands("not 1<1 and not 1=1 and not not not not not 1");
        stands("(not 1)+(((((1)))))");
        fault("not not 1<((((1))))", 13);
        stands("not not 1<(((1)))");
        stands("not not 1 and (((((1)))))");
    }

    private static void turnTillItEnds() {
        // under a -: its ONE, nothing behind it
        stands("-((((1))))");
        fault("-(((((1)))))", 5);
        stands("-1+(((((1)))))");
        stands("-1*(((((1)))))");
        stands("-1<(((((1)))))");
        stands("-(1)*(((((1)))))");
        stands("-----1*-----1+-----1-----1");
        stands("----(1)+(((((1)))))");
        fault("----(1-(1))", 7);
        stands("---(1-(1))");
        stands("1-(((((1)))))");
        fault("1-((((((1))))))", 7);
    }
}
