import java.math.BigDecimal;
import java.math.BigInteger;

/** What the tests share: numbers and texts into and out of a desk, refused calls, and the count of what was due. */
abstract class Bench {
    static final int SUM = 0, DIFFERENCE = 1, PRODUCT = 2, QUOTIENT = 3, REMAINDER = 4;
    static final String GREATEST = "79228162514264337593543950335";
    static final String BEYOND = "79228162514264337593543950336";
    static final String FULL_OF_ZEROS = "0".repeat(40);
    static final int[] NO_REGISTERS = {-1, 6, 7, 9, 32, Integer.MIN_VALUE, Integer.MAX_VALUE};

    private static String sentence = "";
    private static int sentences = 0;
    private static int checksOfSentence = 0;
    private static int passed = 0;
    private static int failed = 0;

    interface Call { void run(); }

    interface Step { void on(WideDecimalDesk desk); }

    interface Question { Object askedOf(WideDecimalDesk desk); }

    private interface Probe { String of(WideDecimalDesk desk); }

    /** Begins the test of a sentence of the document: what differs from here on is told with its words. */
    static void sentence(String words) {
        endOfSentence();
        sentence = words;
        sentences++;
        checksOfSentence = 0;
    }

    private static void endOfSentence() {
        if (sentences > 0 && checksOfSentence == 0) {
            failed++;
            System.out.println("no check of: " + sentence);
        }
    }

    static void finish() {
        endOfSentence();
        if (sentences > 0) System.out.print(sentences + " sentences, ");
        System.out.println(passed + " passed, " + failed + " failed");
        if (failed != 0) System.exit(1);
    }

    static void due(String what, Object got, Object want) {
        boolean same = want instanceof Character c ? got.equals((int) c) || got.equals(want) : got.equals(want);
        checksOfSentence++;
        if (same) {
            passed++;
            return;
        }
        failed++;
        if (!sentence.isEmpty()) System.out.println("broken: " + sentence);
        System.out.println("  " + what + ": answered " + got + ", due is " + want);
    }

    static String thrown(Call call) {
        try {
            call.run();
            return "nothing";
        } catch (RuntimeException e) {
            return e.getClass().getSimpleName();
        }
    }

    /** A coefficient with a scale, written out. */
    static String scaled(String coefficient, int scale) {
        return new BigDecimal(new BigInteger(coefficient), scale).toPlainString();
    }

    static void put(WideDecimalDesk desk, int register, String number) {
        BigDecimal value = new BigDecimal(number);
        BigInteger coefficient = value.unscaledValue().abs();
        if (coefficient.bitLength() > 96) throw new IllegalStateException("the test itself is wrong: " + number);
        desk.set(register, coefficient.longValue(), coefficient.shiftRight(64).intValue(), value.scale(), value.signum() < 0);
    }

    static void write(WideDecimalDesk desk, String text) {
        desk.clear();
        for (char c : text.toCharArray()) due("type '" + c + "'", desk.type(c), true);
    }

    static String output(WideDecimalDesk desk) {
        StringBuilder all = new StringBuilder();
        for (int i = 0; i < 512; i++) {
            int code = desk.at(i);
            if (code == -1) break;
            all.append((char) code);
        }
        return all.toString();
    }

    /** What a register holds, with every digit that its scale asks for; a negative 0 or a wrong scale would show. */
    static String number(WideDecimalDesk desk, int register) {
        BigInteger coefficient = BigInteger.valueOf(desk.high(register) & 0xFFFFFFFFL).shiftLeft(64);
        coefficient = coefficient.or(new BigInteger(Long.toUnsignedString(desk.low(register))));
        int scale = desk.scale(register);
        String digits = new BigDecimal(coefficient, scale).toPlainString();
        if (scale < 0 || scale > 28) digits += " with scale " + scale;
        return desk.negative(register) ? "-" + digits : digits;
    }

    static void holds(String what, WideDecimalDesk desk, int register, String number) {
        due(what, number(desk, register), number);
    }

    /** Checks compute and attempt; the result is null where the call is refused. */
    static void computes(int operation, String a, String b, String result) {
        WideDecimalDesk desk = new WideDecimalDesk();
        put(desk, 0, a);
        put(desk, 1, b);
        put(desk, 2, "-9.9");
        String call = "operation " + operation + " on " + a + " and " + b;
        String held = result == null ? "-9.9" : result;
        due("7 " + call, thrown(() -> desk.compute(operation, 2, 0, 1)), result == null ? "ArithmeticException" : "nothing");
        holds("7 " + call, desk, 2, held);
        put(desk, 2, "-9.9");
        due("8 " + call, desk.attempt(operation, 2, 0, 1), result != null);
        holds("8 " + call, desk, 2, held);
        holds("7 " + call + ", a stays", desk, 0, a);
        holds("7 " + call + ", b stays", desk, 1, b);
    }

    /** Checks parse; the number is null where it is too large. */
    static void parses(String text, String number) {
        WideDecimalDesk desk = new WideDecimalDesk();
        put(desk, 0, "-9.9");
        write(desk, text);
        due("14 '" + text + "'", thrown(() -> desk.parse(0)), number == null ? "ArithmeticException" : "nothing");
        holds("14 '" + text + "'", desk, 0, number == null ? "-9.9" : number);
    }

    /** Checks format; the output before it is longer than most that it leaves. */
    static void formats(String pattern, String number, String output) {
        WideDecimalDesk desk = new WideDecimalDesk();
        put(desk, 0, "-" + GREATEST);
        desk.show(0);
        put(desk, 1, number);
        write(desk, pattern);
        String call = "16 " + number + " by '" + pattern + "'";
        due(call + ", length", desk.format(1), output.length());
        due(call, output(desk), output);
        holds(call + ", register stays", desk, 1, number);
        due(call + ", text stays", desk.format(1), output.length());
    }

    /** A desk in use: six numbers, an output, and a text. */
    static Step inUse(String text) {
        return desk -> {
            String[] numbers = {"-1234.56", "0.00", GREATEST, "-" + GREATEST, scaled("7", 28), "3.5"};
            for (int i = 0; i < numbers.length; i++) put(desk, i, numbers[i]);
            desk.show(5);
            write(desk, text);
        };
    }

    /** The call throws that exception, and changes nothing. */
    static void refuses(String what, String exception, Step before, Step call) {
        changesNothing(what, exception, before, desk -> thrown(() -> call.on(desk)));
    }

    /** The question has that answer, and a desk that was asked it goes on like a twin that was not. */
    static void changesNothing(String what, Object answer, Step before, Question question) {
        // No one probe sees all: reading the text might spoil what filling it would show, and the other way round.
        for (Probe probe : new Probe[] {Bench::textAsItIsRead, Bench::roomInTheText}) {
            WideDecimalDesk asked = new WideDecimalDesk();
            WideDecimalDesk twin = new WideDecimalDesk();
            before.on(asked);
            before.on(twin);
            due(what, question.askedOf(asked), answer);
            due(what + ", nothing changed", numbersAndOutput(asked), numbersAndOutput(twin));
            due(what + ", nothing changed", probe.of(asked), probe.of(twin));
        }
    }

    private static String numbersAndOutput(WideDecimalDesk desk) {
        StringBuilder all = new StringBuilder();
        for (int i = 0; i < 6; i++) all.append(number(desk, i)).append(", ");
        return all.append("output '").append(output(desk)).append("'").toString();
    }

    private static String textAsItIsRead(WideDecimalDesk desk) {
        StringBuilder all = new StringBuilder("text");
        for (int i : new int[] {0, 1}) {
            all.append(" by format ").append(thrown(() -> desk.format(i))).append(" '").append(output(desk)).append("'");
        }
        return all.append(" by parse ").append(thrown(() -> desk.parse(0))).append(' ').append(number(desk, 0)).toString();
    }

    private static String roomInTheText(WideDecimalDesk desk) {
        int room = 0;
        while (room < 100 && desk.type('7')) room++;
        return "room in the text for " + room;
    }
}
