/** The boundary cases of the texts, and of the promises 18 to 20 about the pad. */
final class TextEdges extends Checks {
    private static final String TEXTS = "Texts", PUT = "Promise 18: put", WIPE = "Promise 19: wipe", FAULT = "Promise 20: fault";
    private static final String[] RIGHT = {"0=0", "1=1", "11=1", "0+1+2+3+4+5+6+7+8+9+10+11=0", "1+10=1", "1+11=0", "10+11=0",
        "9+10=1", "5=0;3=1", "11=0;0=0", "2+11=1;1=0;10=0"};

    private static ParityRules withPad(int length) {
        ParityRules x = new ParityRules();
        put(x, "*".repeat(length));
        return x;
    }

    /** Of all characters that can be put, just these can stand behind a text. */
    private static void canStandBehind(String text, String characters) {
        for (char character = 33; character <= 126; character++) {
            ParityRules x = new ParityRules();
            put(x, text + character);
            boolean stands = x.fault() != text.length();
            due(character + " behind " + text, stands ? 1 : 0, characters.indexOf(character) >= 0 ? 1 : 0);
        }
    }

    @Edge(in = TEXTS, says = "The pad is a text of at most 80 characters, a row of rules: text = rule { \";\" rule };")
    static void longestAndShortestText() {
        ParityRules x = new ParityRules();
        put(x, rows(20, "0=1"));
        due("fault of twenty rules", x.fault(), NONE);
        due("80 characters", x.put(';'), 80);
        due("fault of 80 characters", x.fault(), 80);
        due("81 characters", x.put('0'), TOO_MANY);
        x = new ParityRules();
        put(x, "0+1=1;" + rows(18, "0=1"));
        due("77 characters", x.count(7), 77);
        put(x, "+2");
        due("a sum was the end of the rule", x.fault(), 77);
        fault("0=1", NONE);
        fault("0=1;0=1", NONE);
    }

    @Edge(in = TEXTS, says = "rule = choice { \"+\" choice } \"=\" sum;")
    static void longestAndShortestRule() {
        ParityRules x = with(12, "0=1;0+1+2+3+4+5+6+7+8+9+10+11=0");
        due("one choice", x.rule(0, 0), 1);
        due("twelve choices", x.rule(1, 0), 4095);
        fault("=0", 0);
        fault("+0=0", 0);
        fault("0+=0", 2);
        fault("0=", 2);
    }

    @Edge(in = TEXTS, says = "a choice is a number from 0 to 11 without leading zeros")
    static void choicesOfTexts() {
        for (int c = 0; c <= 11; c++) {
            ParityRules x = with(12, c + "=1");
            due("the choice " + c, x.rule(0, 0), 1 << c);
            fault("0" + c + "=1", 1);
            fault("00" + c + "=1", 1);
        }
        for (int c = 12; c <= 130; c++) {
            fault(c + "=1", c > 99 && c < 120 ? 2 : 1);
        }
    }

    @Edge(in = TEXTS, says = "the choices of a rule ascend")
    static void choicesAscend() {
        for (int a = 0; a <= 11; a++) {
            for (int b = 0; b <= 11; b++) {
                fault(a + "+" + b + "=0", pairFault(a, b));
            }
        }
        fault("0+1+1=0", 5);
        fault("0+2+2=0", 4);
        fault("11=0;0=0", NONE);
        fault("5=0;5=0", NONE);
    }

    private static int pairFault(int a, int b) {
        int plus = a < 10 ? 1 : 2;
        if (a == 11) {
            return plus;
        }
        if (a < b) {
            return NONE;
        }
        // A 1 that is too low could still become 10 or 11; a 10 is too low at its second digit.
        return b == 1 || b == 10 ? plus + 2 : plus + 1;
    }

    @Edge(in = TEXTS, says = "a sum is \"0\" or \"1\"")
    static void sumsOfTexts() {
        canStandBehind("0=", "01");
        canStandBehind("11=", "01");
        ParityRules x = with(6, "0=0;1=1");
        due("0", x.rule(0, 1), 0);
        due("1", x.rule(1, 1), 1);
        fault("0=10", 3);
        fault("0=00", 3);
    }

    @Edge(in = TEXTS, says = "The fault is the index of the first character that cannot stand at its place when the text is read from left to right")
    static void theFirstOfSeveral() {
        canStandBehind("", "0123456789");
        canStandBehind("0", "+=");
        canStandBehind("0=0", ";");
        canStandBehind("0=0;", "0123456789");
        canStandBehind("0+", "123456789");
        canStandBehind("0+10", "+=");
        fault("=", 0);
        fault("0=2;;", 2);
        fault(rows(19, "0=0") + ";0=2", 78);
        fault(rows(20, "0=0") + "=", 79);
        for (String text : RIGHT) {
            fault(text + "0==", text.length());
        }
    }

    @Edge(in = TEXTS, says = "also of a digit by which a choice would be above 11")
    static void digitsThatMakeTooMuch() {
        canStandBehind("1", "01+=");
        for (int digit = 2; digit <= 9; digit++) {
            canStandBehind("" + digit, "+=");
        }
        canStandBehind("10", "+=");
        canStandBehind("0+1", "01+=");
        canStandBehind("9=0;1", "01+=");
    }

    @Edge(in = TEXTS, says = "or could not be above the one ahead of it any more;")
    static void digitsThatStayTooLow() {
        canStandBehind("1+", "123456789");
        canStandBehind("1+1", "01");
        canStandBehind("8+", "19");
        canStandBehind("9+", "1");
        canStandBehind("9+1", "01");
        canStandBehind("10+", "1");
        canStandBehind("10+1", "1");
    }

    @Edge(in = TEXTS, says = "a \"+\" behind the choice 11;")
    static void plusBehindTheLast() {
        fault("11+", 2);
        fault("0+11+", 4);
        fault("10+11+", 5);
        fault("10+", 3);
        fault("1+", 2);
        fault("0=0;11+", 6);
    }

    @Edge(in = TEXTS, says = "CHOICES does not matter);")
    static void choicesDoNotMatter() {
        for (int choices = 1; choices <= 12; choices++) {
            ParityRules x = new ParityRules();
            x.choices(choices);
            put(x, "11=1");
            due("with " + choices, x.fault(), NONE);
            put(x, ";12");
            due("with " + choices, x.fault(), 6);
        }
    }

    @Edge(in = TEXTS, says = "if there is none and the text ends too early (also if it is empty), it is the length of the text.")
    static void endsTooEarly() {
        due("empty", new ParityRules().fault(), 0);
        for (String text : RIGHT) {
            for (int length = 1; length <= text.length(); length++) {
                boolean ends = length > 1 && text.charAt(length - 2) == '=';
                fault(text.substring(0, length), ends ? NONE : length);
            }
        }
        fault(rows(19, "0=0") + ";0+1", 79);
        fault(rows(19, "0=0") + ";0+1=", 80);
    }

    @Edge(in = TEXTS, says = "(Behind \"5+\", say, a \"1\" can stand, as 10 and 11 begin with it;")
    static void oneBehindFive() {
        canStandBehind("5+", "16789");
        fault("5+1", 3);
        fault("5+10=0", NONE);
        fault("5+11=0", NONE);
    }

    @Edge(in = TEXTS, says = "behind \"5+1\" no \"+\" and no \"=\" can stand.")
    static void nothingButDigitsBehindFiveAndOne() {
        canStandBehind("5+1", "01");
        fault("5+1+10=0", 3);
        fault("5+1=0", 3);
    }

    @Edge(in = TEXTS, says = "Behind \"11+\" nothing could.)")
    static void nothingBehindElevenAndPlus() {
        canStandBehind("11", "=");
        canStandBehind("0+11", "=");
        canStandBehind("11=0;11", "=");
    }

    @Edge(in = PUT, says = "its lowest 8 bits are the last character, the next 8 bits the one before, and so on;")
    static void lowestBitsAreLast() {
        ParityRules x = new ParityRules();
        due("three", x.put((long) '2' << 16 | '=' << 8 | '1'), 3);
        due("read", x.read(), 1);
        due("its set", x.rule(0, 0), 4);
        due("its sum", x.rule(0, 1), 1);
        due("eight", x.put(pack("3=0;4+5=")), 8);
        due("behind them", x.put('1'), 9);
        due("read", x.read(), 3);
        due("the first one", x.rule(1, 0), 8);
        due("the second one", x.rule(2, 0), 48);
        due("its sum", x.rule(2, 1), 1);
    }

    @Edge(in = PUT, says = "8 bits that are 0 mean that there are no more characters, and everything above them has to be 0, too.")
    static void noughtEnds() {
        long characters = 0;
        for (int many = 1; many <= 8; many++) {
            characters = characters << 8 | '~';
            due(many + " characters", new ParityRules().put(characters), many);
        }
        due("0 between them", new ParityRules().put(0x300030), BAD_VALUE);
        due("0 behind them", new ParityRules().put(0x3000), BAD_VALUE);
        due("0 and the highest ones", new ParityRules().put(0x3000000000000030L), BAD_VALUE);
    }

    @Edge(in = PUT, says = "`characters`: 1 to 8 characters")
    static void oneToEight() {
        for (int many = 1; many <= 8; many++) {
            ParityRules x = new ParityRules();
            String text = "0=0;1=1;".substring(0, many);
            due(many + " characters", x.put(pack(text)), many);
            due("length", x.count(7), many);
            due("fault", x.fault(), many == 3 || many == 7 ? NONE : many);
        }
    }

    @Edge(in = PUT, says = "BAD_VALUE if there is no character,")
    static void noCharacter() {
        due("on an empty pad", new ParityRules().put(0), BAD_VALUE);
        due("on a full pad", withPad(80).put(0), BAD_VALUE);
        due("nothing but bits above", new ParityRules().put(0x3100), BAD_VALUE);
        due("nothing but the highest bits", new ParityRules().put(0x3100000000000000L), BAD_VALUE);
    }

    @Edge(in = PUT, says = "a code is not 33 to 126,")
    static void codes() {
        for (int many = 1; many <= 8; many++) {
            for (int place = 0; place < many; place++) {
                for (int code = 1; code <= 255; code++) {
                    long others = pack("0".repeat(many)) & ~(255L << 8 * place);
                    int want = code >= 33 && code <= 126 ? many : BAD_VALUE;
                    due("code " + code + " at " + place, new ParityRules().put(others | (long) code << 8 * place), want);
                }
            }
        }
    }

    @Edge(in = PUT, says = "or a bit above 8 bits that are 0 is not 0;")
    static void bitsAbove() {
        for (int many = 0; many <= 6; many++) {
            for (int bit = 8 * many + 8; bit < 64; bit++) {
                long characters = pack("0".repeat(many)) | 1L << bit;
                due(many + " characters and the bit " + bit, new ParityRules().put(characters), BAD_VALUE);
            }
        }
    }

    @Edge(in = PUT, says = "TOO_MANY if the pad would be longer than 80.")
    static void padOfEighty() {
        for (int many = 1; many <= 8; many++) {
            long characters = pack("0".repeat(many));
            due(many + " up to 80", withPad(80 - many).put(characters), 80);
            ParityRules x = withPad(81 - many);
            due(many + " up to 81", x.put(characters), TOO_MANY);
            due("length", x.count(7), 81 - many);
            due("a full pad", withPad(80).put(characters), TOO_MANY);
        }
    }

    @Edge(in = WIPE, says = "Empties the pad, and returns the length that it had.")
    static void emptyAndFullPad() {
        for (int length = 0; length <= 80; length++) {
            ParityRules x = withPad(length);
            due("of " + length, x.wipe(), length);
            due("length", x.count(7), 0);
            due("again", x.wipe(), 0);
            due("fault", x.fault(), 0);
            due("there is room again", put(x, "*".repeat(80)), 80);
        }
    }

    @Edge(in = FAULT, says = "Returns the fault of the pad, NONE if there is none.")
    static void noFault() {
        for (String text : RIGHT) {
            fault(text, NONE);
            fault(text + ";", text.length() + 1);
            fault(";" + text, 0);
        }
        ParityRules x = with(6, "0=0");
        due("of a pad that was read", x.fault(), 0);
    }
}
