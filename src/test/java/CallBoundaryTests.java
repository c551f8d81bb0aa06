import java.util.regex.Pattern;

/** The boundary cases that the document names for each call, sentence by sentence, and the calls that are refused. */
public final class CallBoundaryTests extends Bench {
    private static final String ARGUMENT = "IllegalArgumentException";
    private static final String STATE = "IllegalStateException";
    private static final String ARITHMETIC = "ArithmeticException";
    private static final String TOO_LARGE_TEXT = "9".repeat(40);
    private static final int[] NO_SCALES = {-1, 29, 30, Integer.MIN_VALUE, Integer.MAX_VALUE};
    private static final int[] NO_FIVE = {-1, 5, 6, Integer.MIN_VALUE, Integer.MAX_VALUE};
    private static final Pattern NUMBER_FORM = Pattern.compile("-?([0-9]+\\.?[0-9]*|\\.[0-9]+)");

    public static void main(String[] args) {
        newObject();
        textAndOutput();
        setWithoutSign();
        setZero();
        setRefused();
        lowOfNoRegister();
        highOfNoRegister();
        scaleOfNoRegister();
        negativeOfNoRegister();
        computeRefusesArguments();
        computeRefusesZero();
        computeTakesZeroElsewhere();
        computeRefusesTooLarge();
        computeThrowsTheFirst();
        attemptAnswersFalse();
        attemptAnswersTrue();
        roundWhereTheScaleIsGreater();
        roundElseAsItIs();
        roundModes();
        roundRefused();
        trimToTheLeastScale();
        trimRefused();
        compareWhateverTheScales();
        compareLessAndGreater();
        compareRefused();
        typeCodes();
        typeWhenFull();
        clearEmptyAndFull();
        parseKeepsTheText();
        parseForm();
        parseEveryCharacter();
        parsePlace();
        parseRefusesRegisters();
        parseRefusesTexts();
        parseRefusesTooLarge();
        parseThrowsTheFirst();
        showSign();
        showWholePart();
        showPoint();
        showInPlaceOfWhatIsThere();
        showRefused();
        formatInPlaceOfWhatIsThere();
        formatRefusesRegisters();
        formatRefusesTexts();
        formatThrowsTheFirst();
        atWhereNoneIs();
        reuseOfUpTo40();
        reuseOfMoreThan40();
        refusedAfterRefused();
        finish();
    }

    private static void newObject() {
        sentence("1: Six registers with 0, scale 0; empty text and output");
        WideDecimalDesk desk = new WideDecimalDesk();
        for (int i = 0; i < 6; i++) holds("register " + i, desk, i, "0");
        due("output", desk.at(0), -1);
        due("text is no number", thrown(() -> desk.parse(0)), STATE);
        due("text is no pattern", thrown(() -> desk.format(0)), STATE);
        for (int i = 0; i < 40; i++) due("room", desk.type('0'), true);
        due("no more room", desk.type('0'), false);
    }

    private static void textAndOutput() {
        sentence("The TEXT is a list of at most 40 characters with codes 32 .. 126, empty at first; "
            + "the OUTPUT is a list of characters, empty at first");
        due("output at first", new WideDecimalDesk().at(0), -1);
        due("reuse of the output at first", new WideDecimalDesk().reuse(), true);
        for (int first = 32; first + 39 <= 126; first++) {
            WideDecimalDesk desk = new WideDecimalDesk();
            for (int i = 0; i < 40; i++) due("code " + (first + i), desk.type((char) (first + i)), true);
            due("the 41st", desk.type((char) first), false);
        }
    }

    private static void setWithoutSign() {
        sentence("2: low (as a number of 64 bits without sign) + 2^64 * high (32 bits without sign)");
        WideDecimalDesk desk = new WideDecimalDesk();
        String[] numbers = {"1", "9223372036854775807", "9223372036854775808", "18446744073709551615", "18446744073709551616",
            "39614081238685424723062423552", "39614081257132168796771975168", "79228162495817593519834398720", GREATEST};
        long[] low = {1, Long.MAX_VALUE, Long.MIN_VALUE, -1, 0, 0, 0, 0, -1};
        int[] high = {0, 0, 0, 0, 1, Integer.MAX_VALUE, Integer.MIN_VALUE, -1, -1};
        for (int i = 0; i < numbers.length; i++) {
            desk.set(0, low[i], high[i], 0, false);
            due("show " + numbers[i], desk.show(0), numbers[i].length());
            due("show", output(desk), numbers[i]);
            due("low", desk.low(0), low[i]);
            due("high", desk.high(0), high[i]);
        }
    }

    private static void setZero() {
        sentence("2: not negative if the coefficient is 0");
        WideDecimalDesk desk = new WideDecimalDesk();
        desk.set(0, 0, 0, 28, true);
        due("0", desk.negative(0), false);
        due("its scale", desk.scale(0), 28);
        desk.set(0, 0, 1, 0, true);
        due("low 0, high not", desk.negative(0), true);
        desk.set(0, 1, 0, 0, true);
        due("high 0, low not", desk.negative(0), true);
        desk.set(0, 0, 0, 0, false);
        due("0 after a negative number", desk.negative(0), false);
    }

    private static void setRefused() {
        sentence("2: IllegalArgumentException when register is not 0 .. 5 or scale not 0 .. 28");
        for (int register : NO_REGISTERS) refuses("register " + register, ARGUMENT, inUse("-12.50"), desk -> desk.set(register, 1, 1, 1, false));
        for (int scale : NO_SCALES) refuses("scale " + scale, ARGUMENT, inUse("#,##0.0#"), desk -> desk.set(0, 1, 1, scale, false));
        refuses("both", ARGUMENT, inUse(""), desk -> desk.set(6, 1, 1, 29, false));
        for (int register = 0; register < 6; register++) {
            WideDecimalDesk desk = new WideDecimalDesk();
            desk.set(register, 3, 0, register == 0 ? 0 : 28, false);
            holds("register " + register, desk, register, scaled("3", register == 0 ? 0 : 28));
        }
    }

    private static void lowOfNoRegister() {
        sentence("3: 0 when register is not 0 .. 5");
        for (int register : NO_REGISTERS) changesNothing("low " + register, 0L, inUse("7"), desk -> desk.low(register));
        changesNothing("low 0", 123456L, inUse("7"), desk -> desk.low(0));
        changesNothing("low 5", 35L, inUse("7"), desk -> desk.low(5));
    }

    private static void highOfNoRegister() {
        sentence("4: 0 when register is not 0 .. 5");
        for (int register : NO_REGISTERS) changesNothing("high " + register, 0, inUse("7"), desk -> desk.high(register));
        WideDecimalDesk desk = new WideDecimalDesk();
        for (int i = 0; i < 6; i++) desk.set(i, 0, -1 - i, 0, false);
        for (int i = 0; i < 6; i++) due("high " + i, desk.high(i), -1 - i);
    }

    private static void scaleOfNoRegister() {
        sentence("5: -1 when register is not 0 .. 5");
        for (int register : NO_REGISTERS) changesNothing("scale " + register, -1, inUse("7"), desk -> desk.scale(register));
        changesNothing("scale 0", 2, inUse("7"), desk -> desk.scale(0));
        changesNothing("scale 5", 1, inUse("7"), desk -> desk.scale(5));
    }

    private static void negativeOfNoRegister() {
        sentence("6: false when register is not 0 .. 5");
        for (int register : NO_REGISTERS) changesNothing("negative " + register, false, inUse("7"), desk -> desk.negative(register));
        WideDecimalDesk desk = new WideDecimalDesk();
        for (int i = 0; i < 6; i++) desk.set(i, 1, 0, 0, true);
        for (int i = 0; i < 6; i++) due("negative " + i, desk.negative(i), true);
        for (int register : NO_REGISTERS) due("negative " + register, desk.negative(register), false);
    }

    private static void computeRefusesArguments() {
        sentence("7: IllegalArgumentException when operation is not 0 .. 4 or one of the registers not 0 .. 5");
        for (int operation : NO_FIVE) {
            refuses("operation " + operation, ARGUMENT, inUse("-12.50"), desk -> desk.compute(operation, 0, 5, 4));
        }
        for (int operation = SUM; operation <= REMAINDER; operation++) {
            int o = operation;
            for (int register : NO_REGISTERS) {
                refuses("to " + register, ARGUMENT, inUse("#,##0.0#"), desk -> desk.compute(o, register, 5, 4));
                refuses("a " + register, ARGUMENT, inUse("-12.50"), desk -> desk.compute(o, 0, register, 4));
                refuses("b " + register, ARGUMENT, inUse(FULL_OF_ZEROS), desk -> desk.compute(o, 0, 5, register));
            }
        }
        WideDecimalDesk desk = new WideDecimalDesk();
        put(desk, 5, "1.5");
        due("registers 0 and 5", thrown(() -> desk.compute(SUM, 0, 5, 5)), "nothing");
        due("registers 5 and 0", thrown(() -> desk.compute(REMAINDER, 5, 0, 0)), "nothing");
        holds("5 written", desk, 5, "0.0");
    }

    private static void computeRefusesZero() {
        sentence("7: ArithmeticException when b's number is 0 in a quotient or remainder");
        for (int operation : new int[] {QUOTIENT, REMAINDER}) {
            for (int a = 0; a < 6; a++) {
                for (int to = 0; to < 6; to++) {
                    int from = a;
                    int into = to;
                    refuses("operation " + operation, ARITHMETIC, inUse("-12.50"), desk -> desk.compute(operation, into, from, 1));
                }
            }
        }
    }

    private static void computeTakesZeroElsewhere() {
        sentence("7: in a quotient or remainder (not in the others, nor for an a of 0)");
        computes(SUM, "5", "0.0", "5.0");
        computes(DIFFERENCE, "5", "0.0", "5.0");
        computes(PRODUCT, "5", "0.0", "0.0");
        computes(QUOTIENT, "0.0", "5", "0.0");
        computes(REMAINDER, "0.0", "5", "0.0");
        computes(QUOTIENT, "5", scaled("1", 28), "5" + "0".repeat(28));
    }

    private static void computeRefusesTooLarge() {
        sentence("7: ArithmeticException when .. the result is too large");
        for (int to = 0; to < 6; to++) {
            int into = to;
            refuses("sum", ARITHMETIC, inUse("-12.50"), desk -> desk.compute(SUM, into, 2, 5));
            refuses("sum below 0", ARITHMETIC, inUse("-12.50"), desk -> desk.compute(SUM, into, 3, 3));
            refuses("difference", ARITHMETIC, inUse("#,##0.0#"), desk -> desk.compute(DIFFERENCE, into, 2, 0));
            refuses("product", ARITHMETIC, inUse(FULL_OF_ZEROS), desk -> desk.compute(PRODUCT, into, 2, 3));
            refuses("quotient", ARITHMETIC, inUse(""), desk -> desk.compute(QUOTIENT, into, 0, 4));
        }
        computes(QUOTIENT, "3.5", scaled("7", 28), "5" + "0".repeat(27));
    }

    private static void computeThrowsTheFirst() {
        sentence("7: Where a call names several, the first one whose reason holds is thrown");
        for (int operation : NO_FIVE) {
            refuses("operation, by 0", ARGUMENT, inUse("7"), desk -> desk.compute(operation, 0, 0, 1));
            refuses("operation, too large", ARGUMENT, inUse("7"), desk -> desk.compute(operation, 0, 2, 2));
        }
        for (int register : NO_REGISTERS) {
            refuses("to, by 0", ARGUMENT, inUse("7"), desk -> desk.compute(QUOTIENT, register, 0, 1));
            refuses("a, by 0", ARGUMENT, inUse("7"), desk -> desk.compute(REMAINDER, 0, register, 1));
            refuses("to, too large", ARGUMENT, inUse("7"), desk -> desk.compute(PRODUCT, register, 2, 2));
        }
    }

    private static void attemptAnswersFalse() {
        sentence("8: where compute would throw an exception (whichever), nothing is changed, and it answers false");
        for (int operation : NO_FIVE) {
            changesNothing("operation " + operation, false, inUse("-12.50"), desk -> desk.attempt(operation, 0, 5, 4));
        }
        for (int operation = SUM; operation <= REMAINDER; operation++) {
            int o = operation;
            for (int register : NO_REGISTERS) {
                changesNothing("to " + register, false, inUse("#,##0.0#"), desk -> desk.attempt(o, register, 5, 4));
                changesNothing("a " + register, false, inUse("-12.50"), desk -> desk.attempt(o, 0, register, 4));
                changesNothing("b " + register, false, inUse(FULL_OF_ZEROS), desk -> desk.attempt(o, 0, 5, register));
            }
        }
        for (int to = 0; to < 6; to++) {
            int into = to;
            changesNothing("quotient by 0", false, inUse("7"), desk -> desk.attempt(QUOTIENT, into, 0, 1));
            changesNothing("remainder by 0", false, inUse("7"), desk -> desk.attempt(REMAINDER, into, 0, 1));
            changesNothing("sum", false, inUse("7"), desk -> desk.attempt(SUM, into, 2, 5));
            changesNothing("difference", false, inUse("7"), desk -> desk.attempt(DIFFERENCE, into, 3, 2));
            changesNothing("product", false, inUse("7"), desk -> desk.attempt(PRODUCT, into, 2, 3));
            changesNothing("quotient", false, inUse("7"), desk -> desk.attempt(QUOTIENT, into, 0, 4));
        }
    }

    private static void attemptAnswersTrue() {
        sentence("8: Does what compute does, and answers true");
        for (int operation = SUM; operation <= REMAINDER; operation++) {
            WideDecimalDesk computed = new WideDecimalDesk();
            WideDecimalDesk attempted = new WideDecimalDesk();
            inUse("7").on(computed);
            inUse("7").on(attempted);
            computed.compute(operation, 1, 0, 5);
            due("operation " + operation, attempted.attempt(operation, 1, 0, 5), true);
            for (int i = 0; i < 6; i++) holds("operation " + operation, attempted, i, number(computed, i));
            due("output", output(attempted), "3.5");
        }
    }

    private static void roundWhereTheScaleIsGreater() {
        sentence("9: rounded to that many digits (0 .. 28) behind the point where its scale is greater, with that scale then");
        rounds("1.25", 0, 2, "1");
        rounds("1.25", 1, 2, "1.2");
        rounds("-1.00", 1, 2, "-1.0");
        rounds("-1.00", 0, 4, "-1");
        rounds(scaled(GREATEST, 28), 27, 4, "7.922816251426433759354395034");
        rounds(scaled(GREATEST, 28), 0, 4, "8");
        rounds("-" + scaled(GREATEST, 28), 27, 3, "-7.922816251426433759354395034");
        rounds(scaled(GREATEST, 1), 0, 1, "7922816251426433759354395034");
        rounds(scaled("0", 28), 27, 0, scaled("0", 27));
        rounds(scaled("0", 28), 0, 4, "0");
        rounds("9.99", 1, 1, "10.0");
    }

    private static void roundElseAsItIs() {
        sentence("9: and else as it is");
        for (int mode = 0; mode < 5; mode++) {
            rounds("1.25", 2, mode, "1.25");
            rounds("1.25", 3, mode, "1.25");
            rounds("-1.25", 28, mode, "-1.25");
            rounds(scaled(GREATEST, 28), 28, mode, scaled(GREATEST, 28));
            rounds(GREATEST, 0, mode, GREATEST);
            rounds(GREATEST, 28, mode, GREATEST);
            rounds("0", 28, mode, "0");
        }
    }

    private static void roundModes() {
        String[] sentences = {"0 to the nearest, a half to the even one", "1 to the nearest, a half away from 0", "2 towards 0",
            "3 downwards", "4 upwards"};
        String[] numbers = {"2.0", "2.1", "2.4", "2.5", "2.6", "3.5", "0.5", "0.1", "-2.0", "-2.1", "-2.5", "-2.6", "-3.5", "-0.5", "-0.1"};
        String[][] results = {
            {"2", "2", "2", "2", "3", "4", "0", "0", "-2", "-2", "-2", "-3", "-4", "0", "0"},
            {"2", "2", "2", "3", "3", "4", "1", "0", "-2", "-2", "-3", "-3", "-4", "-1", "0"},
            {"2", "2", "2", "2", "2", "3", "0", "0", "-2", "-2", "-2", "-2", "-3", "0", "0"},
            {"2", "2", "2", "2", "2", "3", "0", "0", "-2", "-3", "-3", "-3", "-4", "-1", "-1"},
            {"2", "3", "3", "3", "3", "4", "1", "1", "-2", "-2", "-2", "-2", "-3", "0", "0"},
        };
        String nearlyHalf = "2.4" + "9".repeat(27);
        String halfAndMore = "2.5" + "0".repeat(26) + "1";
        String[] nearlyHalves = {"2", "2", "2", "2", "3"};
        String[] halvesAndMore = {"3", "3", "2", "2", "3"};
        for (int mode = 0; mode < 5; mode++) {
            sentence("9: mode: " + sentences[mode]);
            for (int i = 0; i < numbers.length; i++) rounds(numbers[i], 0, mode, results[mode][i]);
            rounds(nearlyHalf, 0, mode, nearlyHalves[mode]);
            rounds(halfAndMore, 0, mode, halvesAndMore[mode]);
        }
    }

    private static void rounds(String number, int digits, int mode, String result) {
        WideDecimalDesk desk = new WideDecimalDesk();
        put(desk, 5, number);
        put(desk, 0, "-9.9");
        desk.round(0, 5, digits, mode);
        String call = "round " + number + " to " + digits + " in mode " + mode;
        holds(call, desk, 0, result);
        holds(call + ", a stays", desk, 5, number);
    }

    private static void roundRefused() {
        sentence("9: IllegalArgumentException when a register is not 0 .. 5, digits not 0 .. 28 or mode not 0 .. 4");
        for (int register : NO_REGISTERS) {
            refuses("to " + register, ARGUMENT, inUse("-12.50"), desk -> desk.round(register, 0, 1, 0));
            refuses("a " + register, ARGUMENT, inUse("#,##0.0#"), desk -> desk.round(0, register, 1, 0));
        }
        for (int digits : NO_SCALES) refuses("digits " + digits, ARGUMENT, inUse(FULL_OF_ZEROS), desk -> desk.round(0, 0, digits, 0));
        for (int mode : NO_FIVE) {
            refuses("mode " + mode, ARGUMENT, inUse(""), desk -> desk.round(0, 0, 1, mode));
            refuses("mode " + mode + " with nothing to round", ARGUMENT, inUse(""), desk -> desk.round(5, 0, 28, mode));
        }
    }

    private static void trimToTheLeastScale() {
        sentence("10: the same number as register a with the least scale with which it can be written");
        trims("1.50", "1.5");
        trims("-1.500", "-1.5");
        trims("1.5", "1.5");
        trims("100", "100");
        trims("-100.00", "-100");
        trims("0", "0");
        trims("0.0", "0");
        trims(scaled("0", 28), "0");
        trims(scaled("1" + "0".repeat(28), 28), "1");
        trims(scaled("1" + "0".repeat(28), 27), "10");
        trims(scaled("-7" + "0".repeat(27), 28), "-0.7");
        trims(scaled("1", 28), scaled("1", 28));
        trims(scaled("10", 28), scaled("1", 27));
        trims(scaled(GREATEST, 28), scaled(GREATEST, 28));
        trims(scaled("79228162514264337593543950330", 28), scaled("7922816251426433759354395033", 27));
        trims(GREATEST, GREATEST);
    }

    private static void trims(String number, String result) {
        WideDecimalDesk desk = new WideDecimalDesk();
        put(desk, 5, number);
        put(desk, 0, "-9.9");
        desk.trim(0, 5);
        holds("trim " + number, desk, 0, result);
        holds("trim " + number + ", a stays", desk, 5, number);
    }

    private static void trimRefused() {
        sentence("10: IllegalArgumentException when a register is not 0 .. 5");
        for (int register : NO_REGISTERS) {
            refuses("to " + register, ARGUMENT, inUse("-12.50"), desk -> desk.trim(register, 1));
            refuses("a " + register, ARGUMENT, inUse("#,##0.0#"), desk -> desk.trim(1, register));
            refuses("both " + register, ARGUMENT, inUse(""), desk -> desk.trim(register, register));
        }
    }

    private static void compareWhateverTheScales() {
        sentence("11: the same (whatever the scales)");
        for (int k = 0; k <= 28; k++) {
            for (int l = 0; l <= 28; l++) {
                compares(scaled("0", k), scaled("0", l), 0);
                compares(scaled("7" + "0".repeat(k), k), scaled("7" + "0".repeat(l), l), 0);
                compares(scaled("-7" + "0".repeat(k), k), scaled("-7" + "0".repeat(l), l), 0);
            }
        }
    }

    private static void compareLessAndGreater() {
        sentence("11: -1, 0 or 1 when the number of register a is less than that of b, .. or greater");
        String[] order = {"-" + GREATEST, "-79228162514264337593543950334", "-" + scaled(GREATEST, 1), "-" + scaled(GREATEST, 28), "-1.1", "-1",
            "-" + scaled("9999999999999999999999999999", 28), "-" + scaled("1", 28), "0.0", scaled("1", 28),
            scaled("9999999999999999999999999999", 28), "1.00", scaled("10000000000000000000000000001", 28),
            scaled(GREATEST, 28), scaled(GREATEST, 1), "79228162514264337593543950334", GREATEST};
        for (int i = 0; i < order.length; i++) {
            for (int j = 0; j < order.length; j++) compares(order[i], order[j], Integer.compare(i, j));
        }
        // With the other's scale, the first of these is just above 2^188: its highest bits alone tell.
        compares("39231885846166754773973683896", scaled(GREATEST, 28), 1);
        compares(scaled(GREATEST, 28), "39231885846166754773973683896", -1);
        changesNothing("compare", -1, inUse("7"), desk -> desk.compare(0, 5));
    }

    private static void compares(String a, String b, int answer) {
        WideDecimalDesk desk = new WideDecimalDesk();
        put(desk, 0, a);
        put(desk, 5, b);
        due("compare " + a + " and " + b, desk.compare(0, 5), answer);
        holds("a stays", desk, 0, a);
        holds("b stays", desk, 5, b);
    }

    private static void compareRefused() {
        sentence("11: IllegalArgumentException when a register is not 0 .. 5");
        for (int register : NO_REGISTERS) {
            refuses("a " + register, ARGUMENT, inUse("-12.50"), desk -> desk.compare(register, 0));
            refuses("b " + register, ARGUMENT, inUse("#,##0.0#"), desk -> desk.compare(0, register));
            refuses("both " + register, ARGUMENT, inUse(""), desk -> desk.compare(register, register));
        }
    }

    private static void typeCodes() {
        sentence("12: false, changing nothing, when its code is not 32 .. 126");
        for (int code = 0; code <= 0xFFFF; code++) {
            due("code " + code, new WideDecimalDesk().type((char) code), code >= 32 && code <= 126);
        }
        for (char c : new char[] {0, 9, 10, 31, 127, 128, 160, 255, 256 + '7', 0xFF00 + '7', 0xFFFF}) {
            changesNothing("code " + (int) c, false, inUse("-12.50"), desk -> desk.type(c));
            changesNothing("code " + (int) c, false, inUse(""), desk -> desk.type(c));
        }
        WideDecimalDesk desk = new WideDecimalDesk();
        inUse("-12.5").on(desk);
        due("at the end", desk.type('7'), true);
        desk.parse(0);
        holds("at the end", desk, 0, "-12.57");
        due("output stays", output(desk), "3.5");
    }

    private static void typeWhenFull() {
        sentence("12: false, changing nothing, when .. 40 are there");
        for (char c : new char[] {' ', '0', '.', '~', 31}) changesNothing("the 41st", false, inUse(FULL_OF_ZEROS), desk -> desk.type(c));
        WideDecimalDesk desk = new WideDecimalDesk();
        write(desk, "0".repeat(39));
        due("the 40th", desk.type('7'), true);
        due("the 41st", desk.type('8'), false);
        desk.parse(0);
        holds("the 40th", desk, 0, "7");
    }

    private static void clearEmptyAndFull() {
        sentence("13: Makes the text empty");
        for (String text : new String[] {"", "7", FULL_OF_ZEROS}) {
            WideDecimalDesk desk = new WideDecimalDesk();
            inUse(text).on(desk);
            desk.clear();
            due("no number", thrown(() -> desk.parse(0)), STATE);
            due("no pattern", thrown(() -> desk.format(0)), STATE);
            holds("register stays", desk, 0, "-1234.56");
            due("output stays", output(desk), "3.5");
            for (int i = 0; i < 40; i++) due("room", desk.type('0'), true);
            due("no more room", desk.type('0'), false);
        }
    }

    private static void parseKeepsTheText() {
        sentence("14: Reads the text, which stays");
        WideDecimalDesk desk = new WideDecimalDesk();
        inUse("-12.50").on(desk);
        desk.parse(5);
        desk.parse(0);
        holds("first", desk, 5, "-12.50");
        holds("second", desk, 0, "-12.50");
        due("grows on", desk.type('9'), true);
        desk.parse(0);
        holds("third", desk, 0, "-12.509");
        due("output stays", output(desk), "3.5");
        holds("others stay", desk, 2, GREATEST);
    }

    private static void parseForm() {
        sentence("14: perhaps '-', then digits '0' .. '9', one or more, among, before or behind which one '.' may stand");
        char[] letters = {'0', '9', '.', '-', '+', ','};
        for (int length = 0; length <= 5; length++) {
            int texts = (int) Math.pow(letters.length, length);
            for (int choice = 0; choice < texts; choice++) {
                StringBuilder text = new StringBuilder();
                for (int rest = choice; text.length() < length; rest /= letters.length) text.append(letters[rest % letters.length]);
                isNumberByForm(text.toString());
            }
        }
        parses("-" + "0".repeat(38) + "5", "-5");
        parses("0".repeat(39) + ".", "0");
        parses("." + "0".repeat(27) + "1" + "0".repeat(11), scaled("1", 28));
    }

    private static void parseEveryCharacter() {
        sentence("14: digits '0' .. '9'");
        for (char c = 32; c <= 126; c++) {
            for (String text : new String[] {"" + c, c + "1", "1" + c, "1" + c + "1", "-" + c, "-1" + c, "1." + c, "." + c}) isNumberByForm(text);
        }
        for (char c = '0'; c <= '9'; c++) parses("" + c, "" + c);
    }

    private static void isNumberByForm(String text) {
        WideDecimalDesk desk = new WideDecimalDesk();
        for (char c : text.toCharArray()) desk.type(c);
        due("'" + text + "'", thrown(() -> desk.parse(0)), NUMBER_FORM.matcher(text).matches() ? "nothing" : STATE);
    }

    private static void parsePlace() {
        sentence("14: The number is placed at the number of digits behind the '.' (0 if there is none)");
        parses("100", "100");
        parses("100.", "100");
        parses("100.0", "100.0");
        parses(".0", "0.0");
        parses("0", "0");
        for (int digits = 1; digits <= 38; digits++) parses("0." + "0".repeat(digits), scaled("0", Math.min(digits, 28)));
        parses("7." + "0".repeat(38), scaled("7" + "0".repeat(28), 28));
        parses("8." + "0".repeat(38), scaled("8" + "0".repeat(27), 27));
    }

    private static void parseRefusesRegisters() {
        sentence("14: IllegalArgumentException when register is not 0 .. 5");
        for (int register : NO_REGISTERS) refuses("register " + register, ARGUMENT, inUse("-12.50"), desk -> desk.parse(register));
        for (int register = 0; register < 6; register++) {
            WideDecimalDesk desk = new WideDecimalDesk();
            write(desk, "-7.5");
            desk.parse(register);
            for (int i = 0; i < 6; i++) holds("register " + register, desk, i, i == register ? "-7.5" : "0");
        }
    }

    private static void parseRefusesTexts() {
        sentence("14: IllegalStateException when the text is not of this form");
        for (String text : new String[] {"", "-", ".", "-.", "--1", "1-", "+1", " 1", "1 ", "1.2.3", "..1", "1..", ".-1", "1,000", "1e5",
            "#,##0.0#", "0%", "0".repeat(39) + "-", "1".repeat(39) + " ", ".".repeat(40)}) {
            for (int register = 0; register < 6; register++) {
                int into = register;
                refuses("'" + text + "'", STATE, inUse(text), desk -> desk.parse(into));
            }
        }
    }

    private static void parseRefusesTooLarge() {
        sentence("14: ArithmeticException when the number is too large");
        for (String text : new String[] {BEYOND, "-" + BEYOND, GREATEST + ".5", "-" + GREATEST + ".5", TOO_LARGE_TEXT, "1" + "0".repeat(29),
            BEYOND + "." + "0".repeat(10), "0".repeat(11) + BEYOND}) {
            for (int register = 0; register < 6; register++) {
                int into = register;
                refuses("'" + text + "'", ARITHMETIC, inUse(text), desk -> desk.parse(into));
            }
        }
    }

    private static void parseThrowsTheFirst() {
        sentence("14: Where a call names several, the first one whose reason holds is thrown");
        for (int register : NO_REGISTERS) {
            refuses("register, form", ARGUMENT, inUse(""), desk -> desk.parse(register));
            refuses("register, form", ARGUMENT, inUse("1.2.3"), desk -> desk.parse(register));
            refuses("register, too large", ARGUMENT, inUse(TOO_LARGE_TEXT), desk -> desk.parse(register));
        }
        refuses("form, too large", STATE, inUse("9".repeat(39) + "-"), desk -> desk.parse(0));
        refuses("form, too large", STATE, inUse("9".repeat(37) + ".9."), desk -> desk.parse(0));
        refuses("form, too large", STATE, inUse("--" + "9".repeat(38)), desk -> desk.parse(0));
    }

    private static void showSign() {
        sentence("15: '-' if it is negative");
        shows("-1");
        shows("1");
        shows("-" + scaled("1", 28));
        shows("0");
        WideDecimalDesk desk = new WideDecimalDesk();
        desk.set(0, 0, 0, 1, true);
        due("length", desk.show(0), 3);
        due("0 has no sign", output(desk), "0.0");
    }

    private static void showWholePart() {
        sentence("15: the digits of its whole part ('0' if that is 0)");
        shows("0.9");
        shows("-0.05");
        shows("1.0");
        shows("10.01");
        shows("1000");
        shows(GREATEST);
        shows("-" + GREATEST);
        shows(scaled("0", 28));
        shows(scaled("9999999999999999999999999999", 28));
        shows(scaled("10000000000000000000000000000", 28));
    }

    private static void showPoint() {
        sentence("15: if its scale is not 0, '.' and as many digits as its scale says");
        for (int scale = 0; scale <= 28; scale++) {
            shows(scaled("0", scale));
            shows(scaled("-7", scale));
            shows(scaled("70", scale));
            shows("-" + scaled(GREATEST, scale));
        }
    }

    private static void shows(String number) {
        WideDecimalDesk desk = new WideDecimalDesk();
        inUse("7").on(desk);
        put(desk, 5, number);
        due("length of " + number, desk.show(5), number.length());
        due("show " + number, output(desk), number);
        holds("register stays", desk, 5, number);
        desk.parse(5);
        holds("text stays", desk, 5, "7");
    }

    private static void showInPlaceOfWhatIsThere() {
        sentence("15: into the output, in place of what is there");
        WideDecimalDesk desk = new WideDecimalDesk();
        put(desk, 0, "-" + scaled(GREATEST, 28));
        due("long", desk.show(0), 31);
        due("short", desk.show(1), 1);
        due("short", output(desk), "0");
        due("long again", desk.show(0), 31);
        due("the same again", desk.show(0), 31);
        due("long", output(desk), "-" + scaled(GREATEST, 28));
    }

    private static void showRefused() {
        sentence("15: IllegalArgumentException when register is not 0 .. 5");
        for (int register : NO_REGISTERS) {
            refuses("register " + register, ARGUMENT, inUse("-12.50"), desk -> desk.show(register));
            refuses("register " + register, ARGUMENT, desk -> { }, desk -> desk.show(register));
        }
    }

    private static void formatInPlaceOfWhatIsThere() {
        sentence("16: into the output, in place of what is there, by the text as a pattern: the length of the output");
        WideDecimalDesk desk = new WideDecimalDesk();
        inUse("#,#.00").on(desk);
        due("long", desk.format(2), 41);
        due("short", desk.format(5), 4);
        due("short", output(desk), "3.50");
        due("shorter", desk.format(1), 3);
        due("shorter", output(desk), ".00");
        write(desk, "#");
        due("none", desk.format(1), 0);
        due("none", output(desk), "");
        due("again", desk.format(0), 5);
        due("again", output(desk), "-1235");
        holds("register stays", desk, 0, "-1234.56");
    }

    private static void formatRefusesRegisters() {
        sentence("16: IllegalArgumentException when register is not 0 .. 5");
        for (int register : NO_REGISTERS) refuses("register " + register, ARGUMENT, inUse("#,##0.0#"), desk -> desk.format(register));
        WideDecimalDesk desk = new WideDecimalDesk();
        write(desk, "0");
        for (int register = 0; register < 6; register++) due("register " + register, desk.format(register), 1);
    }

    private static void formatRefusesTexts() {
        sentence("16: IllegalStateException when the text is no pattern");
        for (String text : new String[] {"", ",", ".", "%", ",.%", "0%%", "%0", "0.0.0", "0.0,0", " 0", "0 ", "-0", "1", "-12.50", "0%0",
            "0".repeat(39) + "-", "0".repeat(38) + "%%", ",".repeat(40), "9".repeat(40)}) {
            for (int register = 0; register < 6; register++) {
                int from = register;
                refuses("'" + text + "'", STATE, inUse(text), desk -> desk.format(from));
            }
        }
    }

    private static void formatThrowsTheFirst() {
        sentence("16: Where a call names several, the first one whose reason holds is thrown");
        for (int register : NO_REGISTERS) {
            refuses("register, no pattern", ARGUMENT, inUse(""), desk -> desk.format(register));
            refuses("register, no pattern", ARGUMENT, inUse("0%%"), desk -> desk.format(register));
        }
    }

    private static void atWhereNoneIs() {
        sentence("17: counted from 0; -1 when there is none");
        for (int i : new int[] {-1, 3, 4, 39, 40, 79, 80, 81, Integer.MIN_VALUE, Integer.MAX_VALUE}) {
            changesNothing("at " + i, -1, inUse("7"), desk -> desk.at(i));
        }
        changesNothing("at 0", (int) '3', inUse("7"), desk -> desk.at(0));
        changesNothing("at 2", (int) '5', inUse("7"), desk -> desk.at(2));
        WideDecimalDesk desk = new WideDecimalDesk();
        inUse("#,#." + "0".repeat(35) + "%").on(desk);
        due("the longest", desk.format(3), 79);
        due("its first", desk.at(0), (int) '-');
        due("its last", desk.at(78), (int) '%');
        due("behind its last", desk.at(79), -1);
        desk.show(5);
        due("behind a shorter one", desk.at(3), -1);
        due("where the longer one ended", desk.at(78), -1);
    }

    private static void reuseOfUpTo40() {
        sentence("18: Makes the output the text: whether it did");
        for (int length = 0; length <= 40; length++) {
            WideDecimalDesk desk = new WideDecimalDesk();
            put(desk, 0, "7");
            write(desk, "0".repeat(Math.max(1, length)));
            if (length > 0) due("output", desk.format(0), length);
            due("reuse of " + length, desk.reuse(), true);
            due("text of " + length, thrown(() -> desk.parse(1)), length > 0 ? "nothing" : STATE);
            holds("text of " + length, desk, 1, length > 0 ? "7" : "0");
            due("output of " + length + " stays", output(desk).length(), length);
            int room = 0;
            while (room < 100 && desk.type('0')) room++;
            due("room behind " + length, room, 40 - length);
        }
    }

    private static void reuseOfMoreThan40() {
        sentence("18: (the text stays as it was when the output has more than 40 characters)");
        changesNothing("41", false, desk -> {
            inUse("0".repeat(40)).on(desk);
            due("41 characters", desk.format(0), 41);
        }, desk -> desk.reuse());
        changesNothing("41, another text", false, desk -> {
            inUse("0".repeat(40)).on(desk);
            due("41 characters", desk.format(3), 41);
            write(desk, "-12.50");
        }, desk -> desk.reuse());
        changesNothing("41, no text", false, desk -> {
            inUse("#,#.00").on(desk);
            due("41 characters", desk.format(2), 41);
            desk.clear();
        }, desk -> desk.reuse());
        changesNothing("79", false, desk -> {
            inUse("#,#." + "0".repeat(35) + "%").on(desk);
            due("79 characters", desk.format(3), 79);
            write(desk, "#,#.##");
        }, desk -> desk.reuse());
        WideDecimalDesk desk = new WideDecimalDesk();
        inUse("#,#.0").on(desk);
        due("40 characters", desk.format(2), 40);
        due("40 are reused", desk.reuse(), true);
        due("and are no number with their commas", thrown(() -> desk.parse(0)), STATE);
    }

    private static void refusedAfterRefused() {
        sentence("What throws an exception changes nothing");
        changesNothing("one after another", "no change", inUse("1.2.3"), desk -> {
            thrown(() -> desk.set(6, 1, 1, 1, true));
            thrown(() -> desk.compute(PRODUCT, 0, 2, 3));
            thrown(() -> desk.compute(QUOTIENT, 0, 2, 1));
            thrown(() -> desk.compute(5, 0, 2, 1));
            thrown(() -> desk.round(0, 0, 29, 0));
            thrown(() -> desk.trim(0, 6));
            thrown(() -> desk.compare(0, 6));
            thrown(() -> desk.parse(0));
            thrown(() -> desk.show(6));
            thrown(() -> desk.format(0));
            desk.attempt(SUM, 0, 2, 2);
            desk.type((char) 127);
            return "no change";
        });
        // What a refused call has begun must not show in the next one.
        WideDecimalDesk desk = new WideDecimalDesk();
        inUse(GREATEST + ".77").on(desk);
        due("too large", thrown(() -> desk.parse(0)), ARITHMETIC);
        desk.round(0, 5, 0, 3);
        holds("round", desk, 0, "3");
        due("too large", thrown(() -> desk.parse(0)), ARITHMETIC);
        desk.compute(SUM, 0, 5, 5);
        holds("sum", desk, 0, "7.0");
        due("too large", thrown(() -> desk.compute(QUOTIENT, 0, 2, 4)), ARITHMETIC);
        desk.compute(REMAINDER, 0, 5, 5);
        holds("remainder", desk, 0, "0.0");
        due("compare", desk.compare(5, 0), 1);
    }
}
