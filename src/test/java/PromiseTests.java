import java.math.BigDecimal;
import java.math.BigInteger;

/** The document's promises by number: ordinary inputs, the edges that it names, and wrong inputs. */
public final class PromiseTests extends Bench {
    public static void main(String[] args) {
        newObject();
        set();
        readings();
        sums();
        products();
        quotients();
        remainders();
        wrongOrders();
        attempts();
        sameRegisters();
        rounds();
        trims();
        compares();
        types();
        parses();
        shows();
        formats();
        formatsAnew();
        callsAfterTooLarge();
        wrongFormats();
        outputs();
        reuses();
        finish();
    }

    private static void newObject() {
        WideDecimalDesk desk = new WideDecimalDesk();
        for (int i = 0; i < 6; i++) holds("1 register " + i, desk, i, "0");
        due("1 output", desk.at(0), -1);
        due("1 text is no number", thrown(() -> desk.parse(0)), "IllegalStateException");
        due("1 text is no pattern", thrown(() -> desk.format(0)), "IllegalStateException");
        WideDecimalDesk other = new WideDecimalDesk();
        other.set(0, 7, 0, 0, false);
        other.type('5');
        holds("1 objects share nothing", desk, 0, "0");
        due("1 texts are not shared", thrown(() -> desk.parse(0)), "IllegalStateException");
    }

    private static void set() {
        WideDecimalDesk desk = new WideDecimalDesk();
        desk.set(5, -1L, -1, 28, true);
        holds("2 greatest", desk, 5, "-7.9228162514264337593543950335");
        desk.set(0, Long.MIN_VALUE, 0, 0, false);
        holds("2 low has no sign", desk, 0, "9223372036854775808");
        desk.set(0, 0, Integer.MIN_VALUE, 0, true);
        holds("2 high has no sign", desk, 0, "-39614081257132168796771975168");
        desk.set(0, 0, 0, 28, true);
        due("2 zero is not negative", desk.negative(0), false);
        due("2 zero keeps its scale", desk.scale(0), 28);
        desk.set(1, 42, 3, 7, true);
        for (int register : NO_REGISTERS) {
            due("2 register " + register, thrown(() -> desk.set(register, 1, 1, 1, false)), "IllegalArgumentException");
        }
        for (int scale : new int[] {-1, 29, Integer.MIN_VALUE, Integer.MAX_VALUE}) {
            due("2 scale " + scale, thrown(() -> desk.set(1, 1, 1, scale, false)), "IllegalArgumentException");
        }
        due("2 low stays", desk.low(1), 42L);
        due("2 high stays", desk.high(1), 3);
        due("2 scale stays", desk.scale(1), 7);
        due("2 sign stays", desk.negative(1), true);
    }

    private static void readings() {
        WideDecimalDesk desk = new WideDecimalDesk();
        for (int i = 0; i < 6; i++) desk.set(i, 100L + i, 200 + i, 10 + i, i % 2 == 1);
        for (int i = 0; i < 6; i++) {
            due("3 low " + i, desk.low(i), 100L + i);
            due("4 high " + i, desk.high(i), 200 + i);
            due("5 scale " + i, desk.scale(i), 10 + i);
            due("6 negative " + i, desk.negative(i), i % 2 == 1);
        }
        for (int register : NO_REGISTERS) {
            due("3 low " + register, desk.low(register), 0L);
            due("4 high " + register, desk.high(register), 0);
            due("5 scale " + register, desk.scale(register), -1);
            due("6 negative " + register, desk.negative(register), false);
        }
    }

    private static void sums() {
        computes(SUM, "1.25", "-7.5", "-6.25");
        computes(SUM, "1.10", "2.90", "4.00");
        computes(SUM, "-1.5", "1.50", "0.00");
        computes(SUM, "0.0", "0.000", "0.000");
        computes(SUM, GREATEST, "0.4", GREATEST);
        computes(SUM, GREATEST, "0.5", null);
        computes(SUM, GREATEST, "1", null);
        computes(SUM, GREATEST, "0.4999999999999999999999999999", GREATEST);
        computes(SUM, "-" + GREATEST, "-0.49", "-" + GREATEST);
        computes(SUM, "79228162514264337593543950334", "0.5", "79228162514264337593543950334");
        computes(SUM, "79228162514264337593543950334", "0.50001", GREATEST);
        computes(SUM, "79228162514264337589248983039", "0.6", "79228162514264337589248983040");
        computes(SUM, "79228162495817593519834398719", "0.6", "79228162495817593519834398720");
        computes(SUM, "7922816251426433759354395033.5", "0.05", "7922816251426433759354395034");
        computes(SUM, "7922816251426433759354395033.5", "0.04", "7922816251426433759354395033.5");
        computes(SUM, GREATEST, "-0.0000000000000000000000000001", GREATEST);
        computes(SUM, GREATEST, "-" + GREATEST, "0");
        computes(DIFFERENCE, "1.25", "-7.5", "8.75");
        computes(DIFFERENCE, "1", "1.000", "0.000");
        computes(DIFFERENCE, "0", "5", "-5");
        computes(DIFFERENCE, "-3", "0", "-3");
        computes(DIFFERENCE, "2", "3.5", "-1.5");
        computes(DIFFERENCE, "-" + GREATEST, "1", null);
        computes(DIFFERENCE, "18446744073709551616", "1", "18446744073709551615");
    }

    private static void products() {
        computes(PRODUCT, "1.25", "-7.5", "-9.375");
        computes(PRODUCT, "-1.0", "-1.0", "1.00");
        computes(PRODUCT, "0.00", "-5.0", "0.000");
        computes(PRODUCT, "0.0000000000000000000000000001", "0.0000000000000000000000000001", "0.0000000000000000000000000000");
        computes(PRODUCT, "-0.0000000000000000000000000001", "0.5", "0.0000000000000000000000000000");
        computes(PRODUCT, "0.0000000000000000000000000003", "0.5", "0.0000000000000000000000000002");
        computes(PRODUCT, "0.0000000000000000000000000001", "0.51", "0.0000000000000000000000000001");
        // One rounding from the exact number, not one after another: 0.0..0 2 | 49 is 2, not 2.5 and then 3 or 2.
        computes(PRODUCT, "0.0000000000000000000000000249", "0.01", "0.0000000000000000000000000002");
        computes(PRODUCT, "0.0000000000000000000000000251", "0.1", "0.0000000000000000000000000025");
        computes(PRODUCT, "0.0000000000000000000000000251", "0.01", "0.0000000000000000000000000003");
        computes(PRODUCT, GREATEST, "0.0000000000000000000000000001", "7.9228162514264337593543950335");
        computes(PRODUCT, GREATEST, "-1.0", "-" + GREATEST);
        computes(PRODUCT, GREATEST, "1.1", null);
        computes(PRODUCT, GREATEST, GREATEST, null);
        computes(PRODUCT, "7.9228162514264337593543950335", "7.9228162514264337593543950335",
            "62.771017353866807638357894230");
        computes(PRODUCT, "281474976710656", "281474976710656", null);
        computes(PRODUCT, "281474976710656", "281474976710655", "79228162514264056118567239680");
    }

    private static void quotients() {
        computes(QUOTIENT, "-7.5", "1.25", "-6");
        computes(QUOTIENT, "1", "8", "0.125");
        computes(QUOTIENT, "1.00", "2", "0.50");
        computes(QUOTIENT, "1.000", "0.1", "10.00");
        computes(QUOTIENT, "100", "0.01", "10000");
        computes(QUOTIENT, "0.00", "-7.0", "0.0");
        computes(QUOTIENT, "0.0", "7.00", "0");
        computes(QUOTIENT, "-2", "3", "-0.6666666666666666666666666667");
        computes(QUOTIENT, "1", "3", "0.3333333333333333333333333333");
        computes(QUOTIENT, "10000000000", "3", "3333333333.3333333333333333333");
        computes(QUOTIENT, GREATEST, "1.0", GREATEST);
        computes(QUOTIENT, GREATEST, "0.1", null);
        computes(QUOTIENT, GREATEST, "0.0000000000000000000000000001", null);
        computes(QUOTIENT, "1", "0.0000000000000000000000000001", "10000000000000000000000000000");
        computes(QUOTIENT, "8", "0.0000000000000000000000000001", null);
        computes(QUOTIENT, "0.0000000000000000000000000001", "2", "0.0000000000000000000000000000");
        computes(QUOTIENT, "-0.0000000000000000000000000003", "2", "-0.0000000000000000000000000002");
        computes(QUOTIENT, "0.0000000000000000000000000001", GREATEST, "0.0000000000000000000000000000");
        computes(QUOTIENT, "1", GREATEST, "0.0000000000000000000000000000");
        computes(QUOTIENT, GREATEST, GREATEST, "1");
        computes(QUOTIENT, GREATEST, "2", "39614081257132168796771975168");
        computes(QUOTIENT, GREATEST, "8", "9903520314283042199192993792");
        computes(QUOTIENT, GREATEST, "16", "4951760157141521099596496895.9");
        computes(QUOTIENT, "5", "0", null);
        computes(QUOTIENT, "0", "0.00", null);
        // At scale 1 it is 2^96 - 2/7, which only rounding makes too large.
        computes(QUOTIENT, "55459713759985036315480765235", "7", "7922816251426433759354395034");
    }

    private static void remainders() {
        computes(REMAINDER, "-7.5", "1.25", "0.00");
        computes(REMAINDER, "7", "3", "1");
        computes(REMAINDER, "-7", "3", "-1");
        computes(REMAINDER, "7", "-3", "1");
        computes(REMAINDER, "-7", "-3", "-1");
        computes(REMAINDER, "17", "7", "3");
        computes(REMAINDER, "-17.5", "0.7", "0.0");
        computes(REMAINDER, "-17", "0.07", "-0.06");
        computes(REMAINDER, "1.23", "1.1", "0.13");
        computes(REMAINDER, "-98765432109876543210.123", "-1234567.89", remainder("-98765432109876543210.123", "-1234567.89"));
        computes(REMAINDER, GREATEST, "0.0000000000012345678901234567", remainder(GREATEST, "0.0000000000012345678901234567"));
        computes(REMAINDER, "7.9228162514264337593543950335", "0.3", remainder("7.9228162514264337593543950335", "0.3"));
        computes(REMAINDER, "1", "0.3", "0.1");
        computes(REMAINDER, "0.30", "1", "0.30");
        computes(REMAINDER, "5.5", "0.250", "0.000");
        computes(REMAINDER, "0", "7.00", "0.00");
        computes(REMAINDER, GREATEST, "0.0000000000000000000000000007",
            remainder(GREATEST, "0.0000000000000000000000000007"));
        computes(REMAINDER, "7.9228162514264337593543950335", GREATEST, "7.9228162514264337593543950335");
        computes(REMAINDER, "-7.9228162514264337593543950335", "7", "-0.9228162514264337593543950335");
        computes(REMAINDER, GREATEST, "7.9228162514264337593543950335",
            remainder(GREATEST, "7.9228162514264337593543950335"));
        computes(REMAINDER, "5", "0", null);
        computes(REMAINDER, "0", "0.0", null);
    }

    private static void wrongOrders() {
        WideDecimalDesk desk = new WideDecimalDesk();
        put(desk, 0, "-1.50");
        for (int operation : new int[] {-1, 5, 6, Integer.MIN_VALUE, Integer.MAX_VALUE}) {
            due("7 operation", thrown(() -> desk.compute(operation, 0, 0, 0)), "IllegalArgumentException");
            due("8 operation", desk.attempt(operation, 0, 0, 0), false);
        }
        for (int operation = 0; operation < 5; operation++) {
            int o = operation;
            for (int register : NO_REGISTERS) {
                due("7 to", thrown(() -> desk.compute(o, register, 0, 1)), "IllegalArgumentException");
                due("7 a", thrown(() -> desk.compute(o, 0, register, 1)), "IllegalArgumentException");
                due("7 b", thrown(() -> desk.compute(o, 0, 0, register)), "IllegalArgumentException");
                due("8 to", desk.attempt(o, register, 0, 1), false);
                due("8 a", desk.attempt(o, 0, register, 1), false);
                due("8 b", desk.attempt(o, 0, 0, register), false);
            }
        }
        holds("7 nothing changed", desk, 0, "-1.50");
    }

    private static void attempts() {
        WideDecimalDesk desk = new WideDecimalDesk();
        put(desk, 0, "6.0");
        put(desk, 1, "-1.5");
        put(desk, 2, "0.00");
        put(desk, 3, GREATEST);
        put(desk, 4, "9");
        due("8 sum", desk.attempt(SUM, 5, 0, 1), true);
        holds("8 sum", desk, 5, "4.5");
        due("8 quotient", desk.attempt(QUOTIENT, 5, 0, 1), true);
        holds("8 quotient", desk, 5, "-4");
        due("8 quotient by 0", desk.attempt(QUOTIENT, 4, 0, 2), false);
        due("8 remainder by 0", desk.attempt(REMAINDER, 4, 0, 2), false);
        due("8 too large", desk.attempt(PRODUCT, 4, 3, 0), false);
        holds("8 nothing changed", desk, 4, "9");
    }

    private static void sameRegisters() {
        WideDecimalDesk desk = new WideDecimalDesk();
        put(desk, 0, "-1.5");
        desk.compute(PRODUCT, 0, 0, 0);
        holds("7 square in place", desk, 0, "2.25");
        desk.compute(SUM, 0, 0, 0);
        holds("7 double in place", desk, 0, "4.50");
        put(desk, 1, "4");
        desk.compute(DIFFERENCE, 1, 0, 1);
        holds("7 into b", desk, 1, "0.50");
        desk.compute(QUOTIENT, 1, 0, 1);
        holds("7 quotient into b", desk, 1, "9");
        holds("7 a stays", desk, 0, "4.50");
        desk.compute(REMAINDER, 1, 1, 0);
        holds("7 remainder into a", desk, 1, "0.00");
        desk.compute(QUOTIENT, 0, 0, 0);
        holds("7 one", desk, 0, "1");
    }

    private static void rounds() {
        String[][] rows = {
            // number, digits, then the results of the modes 0 .. 4
            {"12.345", "2", "12.34", "12.35", "12.34", "12.34", "12.35"},
            {"-12.345", "2", "-12.34", "-12.35", "-12.34", "-12.35", "-12.34"},
            {"12.355", "2", "12.36", "12.36", "12.35", "12.35", "12.36"},
            {"12.3451", "2", "12.35", "12.35", "12.34", "12.34", "12.35"},
            {"12.3449", "2", "12.34", "12.34", "12.34", "12.34", "12.35"},
            {"12.300", "1", "12.3", "12.3", "12.3", "12.3", "12.3"},
            {"-12.300", "1", "-12.3", "-12.3", "-12.3", "-12.3", "-12.3"},
            {"12.3", "1", "12.3", "12.3", "12.3", "12.3", "12.3"},
            {"12.3", "28", "12.3", "12.3", "12.3", "12.3", "12.3"},
            {"-0.5", "0", "0", "-1", "0", "-1", "0"},
            {"0.5", "0", "0", "1", "0", "0", "1"},
            {"-1.5", "0", "-2", "-2", "-1", "-2", "-1"},
            {"0.0000000000000000000000000001", "0", "0", "0", "0", "0", "1"},
            {"-0.0000000000000000000000000001", "0", "0", "0", "0", "-1", "0"},
            {"9.99", "1", "10.0", "10.0", "9.9", "9.9", "10.0"},
            {"0.00", "0", "0", "0", "0", "0", "0"},
            {"7.9228162514264337593543950335", "27", "7.922816251426433759354395034", "7.922816251426433759354395034",
                "7.922816251426433759354395033", "7.922816251426433759354395033", "7.922816251426433759354395034"},
            {"-" + GREATEST, "0", "-" + GREATEST, "-" + GREATEST, "-" + GREATEST, "-" + GREATEST, "-" + GREATEST},
        };
        for (String[] row : rows) {
            for (int mode = 0; mode < 5; mode++) {
                WideDecimalDesk desk = new WideDecimalDesk();
                put(desk, 0, row[0]);
                desk.round(1, 0, Integer.parseInt(row[1]), mode);
                holds("9 " + row[0] + " mode " + mode, desk, 1, row[2 + mode]);
                holds("9 a stays", desk, 0, row[0]);
                desk.round(0, 0, Integer.parseInt(row[1]), mode);
                holds("9 in place", desk, 0, row[2 + mode]);
            }
        }
        WideDecimalDesk desk = new WideDecimalDesk();
        put(desk, 0, "1.25");
        for (int register : NO_REGISTERS) {
            due("9 to", thrown(() -> desk.round(register, 0, 0, 0)), "IllegalArgumentException");
            due("9 a", thrown(() -> desk.round(0, register, 0, 0)), "IllegalArgumentException");
        }
        for (int wrong : new int[] {-1, 29, Integer.MIN_VALUE, Integer.MAX_VALUE}) {
            due("9 digits", thrown(() -> desk.round(0, 0, wrong, 0)), "IllegalArgumentException");
            due("9 mode", thrown(() -> desk.round(0, 0, 0, wrong)), "IllegalArgumentException");
        }
        due("9 mode 5", thrown(() -> desk.round(0, 0, 0, 5)), "IllegalArgumentException");
        holds("9 nothing changed", desk, 0, "1.25");
    }

    private static void trims() {
        String[][] rows = {
            {"1.500", "1.5"}, {"-100", "-100"}, {"100.00", "100"}, {"0.00", "0"}, {"0.0000000000000000000000000000", "0"},
            {"8.75", "8.75"}, {"1.0000000000000000000000000000", "1"}, {"-0.0000000000000000000000000010", "-0.000000000000000000000000001"},
            {GREATEST, GREATEST}, {"4294967296.0", "4294967296"}, {"18446744073709551616.00", "18446744073709551616"},
        };
        for (String[] row : rows) {
            WideDecimalDesk desk = new WideDecimalDesk();
            put(desk, 2, row[0]);
            desk.trim(4, 2);
            holds("10 " + row[0], desk, 4, row[1]);
            holds("10 a stays", desk, 2, row[0]);
            desk.trim(2, 2);
            holds("10 in place", desk, 2, row[1]);
        }
        WideDecimalDesk desk = new WideDecimalDesk();
        put(desk, 0, "1.50");
        for (int register : NO_REGISTERS) {
            due("10 to", thrown(() -> desk.trim(register, 0)), "IllegalArgumentException");
            due("10 a", thrown(() -> desk.trim(0, register)), "IllegalArgumentException");
        }
        holds("10 nothing changed", desk, 0, "1.50");
    }

    private static void compares() {
        String[] order = {
            "-" + GREATEST, "-18446744073709551616", "-7.9228162514264337593543950335", "-1.01", "-1.0",
            "-0.0000000000000000000000000001", "0.00", "0.0000000000000000000000000001", "0.99", "1", "4294967295",
            "4294967296.0", "18446744073709551615", "18446744073709551616", "79228162514264337593543950334", GREATEST,
        };
        for (int i = 0; i < order.length; i++) {
            WideDecimalDesk desk = new WideDecimalDesk();
            for (int j = 0; j < order.length; j++) {
                put(desk, 0, order[i]);
                put(desk, 1, order[j]);
                due("11 " + order[i] + " and " + order[j], desk.compare(0, 1), Integer.compare(i, j));
            }
        }
        WideDecimalDesk desk = new WideDecimalDesk();
        put(desk, 0, "-1.50");
        put(desk, 1, "-1.5");
        due("11 same, other scale", desk.compare(0, 1), 0);
        put(desk, 0, "0.0000000000000000000000000000");
        put(desk, 1, "0");
        due("11 zeros", desk.compare(0, 1), 0);
        // The first one's fraction of 10^-28 is just above 2^188, so that only its highest bits tell.
        BigInteger first = BigInteger.ONE.shiftLeft(188).divide(BigInteger.TEN.pow(28)).add(BigInteger.ONE);
        put(desk, 0, first.toString());
        put(desk, 1, "7.9228162514264337593543950335");
        due("11 highest bits", desk.compare(0, 1), 1);
        due("11 highest bits, turned round", desk.compare(1, 0), -1);
        for (int register : NO_REGISTERS) {
            due("11 a", thrown(() -> desk.compare(register, 0)), "IllegalArgumentException");
            due("11 b", thrown(() -> desk.compare(0, register)), "IllegalArgumentException");
        }
    }

    private static void types() {
        for (int code = 0; code <= 0xFFFF; code++) {
            boolean due = code >= 32 && code <= 126;
            if (new WideDecimalDesk().type((char) code) != due) due("12 code " + code, !due, due);
        }
        WideDecimalDesk desk = new WideDecimalDesk();
        for (char c : new char[] {31, 127, 128, '\n', 0xFFFF, 0x0130}) due("12 code " + (int) c, desk.type(c), false);
        for (int i = 0; i < 40; i++) due("12 room for " + i, desk.type(i < 39 ? '0' : '7'), true);
        due("12 no room", desk.type('1'), false);
        desk.parse(0);
        holds("12 text of 40", desk, 0, "7");
        desk.clear();
        due("13 empty", thrown(() -> desk.parse(0)), "IllegalStateException");
        due("13 room again", desk.type('4'), true);
        desk.parse(0);
        holds("13 new text", desk, 0, "4");
        desk.parse(1);
        holds("14 text stays", desk, 1, "4");
        desk.show(0);
        desk.clear();
        due("13 output stays", desk.at(0), '4');
    }

    private static void parses() {
        parses("0", "0");
        parses("-0", "0");
        parses("-0.00", "0.00");
        parses("007.50", "7.50");
        parses("5.", "5");
        parses(".5", "0.5");
        parses("-.25", "-0.25");
        parses("-12.", "-12");
        parses(GREATEST, GREATEST);
        parses("-" + GREATEST, "-" + GREATEST);
        parses("79228162514264337593543950336", null);
        parses("-79228162514264337593543950336", null);
        parses("9999999999999999999999999999999999999999", null);
        parses(GREATEST + ".4", GREATEST);
        parses(GREATEST + ".4999", GREATEST);
        parses(GREATEST + ".5", null);
        parses("79228162514264337593543950334.5", "79228162514264337593543950334");
        parses("79228162514264337593543950334.501", GREATEST);
        parses("7.92281625142643375935439503355", "7.922816251426433759354395034");
        parses("7.92281625142643375935439503354", "7.9228162514264337593543950335");
        parses("0.00000000000000000000000000005", "0.0000000000000000000000000000");
        parses("-0.00000000000000000000000000005", "0.0000000000000000000000000000");
        parses("0.00000000000000000000000000015", "0.0000000000000000000000000002");
        parses("0.00000000000000000000000000005000000001", "0.0000000000000000000000000001");
        parses("0.0000000000000000000000000000000000000", "0.0000000000000000000000000000");
        parses("00000000000000000000000000000000000000.1", "0.1");
        parses("18446744073709551616.5", "18446744073709551616.5");
        for (String text : new String[] {"", "-", ".", "-.", "--1", "1-", "1-2", "+1", " 1", "1 ", "1..2", "1.2.3", ".1.",
            "1,000", "1e5", "#0", "0x1", "1%", ".-1", "/", ":", "1:"}) {
            WideDecimalDesk desk = new WideDecimalDesk();
            put(desk, 3, "1.5");
            write(desk, text);
            due("14 '" + text + "'", thrown(() -> desk.parse(3)), "IllegalStateException");
            due("14 '" + text + "', no register", thrown(() -> desk.parse(6)), "IllegalArgumentException");
            holds("14 nothing changed", desk, 3, "1.5");
        }
        WideDecimalDesk desk = new WideDecimalDesk();
        write(desk, "9999999999999999999999999999999999999999");
        for (int register : NO_REGISTERS) due("14 register", thrown(() -> desk.parse(register)), "IllegalArgumentException");
    }

    private static void shows() {
        for (String text : new String[] {"0", "0.00", "7", "-7", "-6.25", "0.5", "-0.05", "10.00", "1000", GREATEST,
            "-" + GREATEST, "-7.9228162514264337593543950335", "0.0000000000000000000000000000",
            "-0.0000000000000000000000000001", "4294967296", "18446744073709551616.1"}) {
            WideDecimalDesk desk = new WideDecimalDesk();
            put(desk, 1, text);
            put(desk, 0, "-123456.789");
            desk.show(0);
            due("15 length of " + text, desk.show(1), text.length());
            due("15 " + text, output(desk), text);
            for (int register : NO_REGISTERS) due("15 register", thrown(() -> desk.show(register)), "IllegalArgumentException");
            due("15 output stays", output(desk), text);
            holds("15 register stays", desk, 1, text);
        }
    }

    private static void formats() {
        String[][] rows = {
            // pattern, number, output
            {"#,##0.0#", "-12.3450", "-12.35"}, {"0.#%", "-12.3450", "-1234.5%"}, {"#,##0.0#", "1234567", "1,234,567.0"},
            {"#,##0.00", "0", "0.00"}, {"##", "0.5", "1"}, {"##", "-0.4", ""}, {"#", "0", ""}, {"%#", "0", null},
            {"#%", "0", "%"}, {"#%", "0.004", "%"}, {"#%", "-0.005", "-1%"}, {"0", "-0.4", "0"}, {"0", "0.5", "1"},
            {"0", "1.5", "2"}, {"0", "2.5", "3"}, {"0", "-2.5", "-3"}, {"0", "2.49999", "2"}, {"0.", "2.5", "3"}, {"#.", "7", "7"},
            {".0", "0.25", ".3"}, {".0", "12.25", "12.3"}, {".0", "1234.5", "1234.5"}, {".#", "0", ""}, {".#", "-0.04", ""}, {".#", "-0.05", "-.1"},
            {"0.##", "1.50", "1.5"}, {"0.##", "1.00", "1"}, {"0.0#0#", "1", "1.000"}, {"0.0#0#", "1.00011", "1.0001"},
            {"0.#0", "1", "1.00"}, {"0.000", "1.5", "1.500"}, {"000", "7", "007"}, {"0##", "7", "007"}, {"#0#", "7", "07"},
            {"##0", "7", "7"}, {"#0#0", "7", "007"}, {"000", "12345", "12345"}, {"0,000", "7", "0,007"}, {"0,0", "1234567", "1,234,567"},
            {"#,#", "123", "123"}, {"#,#", "1234", "1,234"}, {"#,#", "0", ""}, {",0", "1234", "1234"}, {"0,", "1234", "1234"},
            {",0,", "1234", "1234"}, {",#,0,", "1234", "1,234"}, {"#,,0", "1234", "1,234"}, {"0,.0", "1234", "1234.0"},
            {"00,0000", "1", "000,001"}, {"0,0000,000", "1", "00,000,001"}, {"#,#%", "123.456", "12,346%"}, {"0.00%", "0.12345", "12.35%"},
            {"0%", "0.005", "1%"}, {"0%", "0.0049", "0%"}, {"0%", "-0.0049", "0%"}, {"0.0%", "1", "100.0%"},
            {"#,#%", GREATEST, "7,922,816,251,426,433,759,354,395,033,500%"}, {"#", GREATEST, GREATEST},
            {"#,#.##", "-9999.995", "-10,000"}, {"0.0", "9.95", "10.0"}, {"0.0", "-9.949", "-9.9"},
            {"0.0000000000000000000000000000000", "0.0000000000000000000000000001", "0.0000000000000000000000000001000"},
            {"#.###############################", "-1.0000000000000000000000000001", "-1.0000000000000000000000000001"},
            {"0000000000000000000000000000000000000000", "5", "0000000000000000000000000000000000000005"},
            {"0,00000000000000000000000000000000000000", "5", "000,000,000,000,000,000,000,000,000,000,000,000,005"},
            {"#,#.00000000000000000000000000000000000%", "-" + GREATEST,
                "-7,922,816,251,426,433,759,354,395,033,500.00000000000000000000000000000000000%"},
            {"0.0", "0.04", "0.0"}, {"0.0", "0.05", "0.1"}, {"0.00", "1.005", "1.01"}, {"0.0#", "1.0449", "1.04"},
            {"0.0", "1.0499999999999999999999999999", "1.0"}, {",.0", "5", "5.0"}, {",,#", "5", "5"},
        };
        for (String[] row : rows) {
            WideDecimalDesk desk = new WideDecimalDesk();
            put(desk, 1, row[1]);
            put(desk, 0, "-55.5");
            desk.show(0);
            write(desk, row[0]);
            if (row[2] == null) {
                due("16 '" + row[0] + "'", thrown(() -> desk.format(1)), "IllegalStateException");
                continue;
            }
            due("16 length of " + row[1] + " by '" + row[0] + "'", desk.format(1), row[2].length());
            due("16 " + row[1] + " by '" + row[0] + "'", output(desk), row[2]);
            holds("16 register stays", desk, 1, row[1]);
            due("16 text stays", desk.format(1), row[2].length());
        }
    }

    private static void formatsAnew() {
        WideDecimalDesk desk = new WideDecimalDesk();
        put(desk, 0, "-1234.5");
        String[][] rows = {
            {"0,0.000%", "-123,450.000%"}, {".#", "-1234.5"}, {"000,000.00", "-001,234.50"}, {"#", "-1235"}, {"#.###", "-1234.5"},
            {"#%", "-123450%"}, {"#.0#", "-1234.5"},
        };
        for (String[] row : rows) {
            write(desk, row[0]);
            desk.format(0);
            due("16 '" + row[0] + "' after another pattern", output(desk), row[1]);
        }
        write(desk, "0,0.00%-");
        due("16 a wrong one", thrown(() -> desk.format(0)), "IllegalStateException");
        write(desk, ".#");
        desk.format(0);
        due("16 after a wrong one", output(desk), "-1234.5");
    }

    private static void callsAfterTooLarge() {
        WideDecimalDesk desk = new WideDecimalDesk();
        put(desk, 0, GREATEST);
        put(desk, 1, "0.77");
        put(desk, 2, "-1.5");
        due("8 too large", desk.attempt(SUM, 3, 0, 1), false);
        desk.round(3, 2, 1, 3);
        holds("9 after too large", desk, 3, "-1.5");
        due("8 too large", desk.attempt(SUM, 3, 0, 1), false);
        desk.compute(SUM, 3, 2, 2);
        holds("7 after too large", desk, 3, "-3.0");
    }

    private static void wrongFormats() {
        for (String text : new String[] {"", ",", ".", "%", ".%", ",.", ",.%", ",,,", "0%%", "%0", "0.0.0", "0..0", "0.0,0", "0.,0", "0 ",
            " 0", "-0", "0%0", "0%.0", "0.0%#", "1", "0a", "0.0-", "#.#,", "0.%,", "/", "$0"}) {
            WideDecimalDesk desk = new WideDecimalDesk();
            put(desk, 1, "1234.5");
            desk.show(1);
            write(desk, text);
            due("16 '" + text + "'", thrown(() -> desk.format(1)), "IllegalStateException");
            due("16 '" + text + "', no register", thrown(() -> desk.format(6)), "IllegalArgumentException");
            due("16 output stays", output(desk), "1234.5");
        }
        WideDecimalDesk desk = new WideDecimalDesk();
        write(desk, "0");
        for (int register : NO_REGISTERS) due("16 register", thrown(() -> desk.format(register)), "IllegalArgumentException");
    }

    private static void outputs() {
        WideDecimalDesk desk = new WideDecimalDesk();
        put(desk, 0, "-12.5");
        put(desk, 1, "3");
        desk.show(0);
        String text = "-12.5";
        for (int i = 0; i < text.length(); i++) due("17 at " + i, desk.at(i), text.charAt(i));
        for (int i : new int[] {-1, 5, 6, 79, 80, 81, Integer.MIN_VALUE, Integer.MAX_VALUE}) due("17 at " + i, desk.at(i), -1);
        desk.show(1);
        due("17 in place of what was there", desk.at(0), '3');
        due("17 shorter", desk.at(1), -1);
        write(desk, "#");
        put(desk, 1, "0");
        due("17 empty output", desk.format(1), 0);
        due("17 nothing there", desk.at(0), -1);
    }

    private static void reuses() {
        WideDecimalDesk desk = new WideDecimalDesk();
        write(desk, "99");
        due("18 empty output", desk.reuse(), true);
        due("18 empty text", thrown(() -> desk.parse(0)), "IllegalStateException");
        put(desk, 0, "-12.50");
        desk.show(0);
        write(desk, "5");
        due("18 done", desk.reuse(), true);
        desk.parse(1);
        holds("18 text is the output", desk, 1, "-12.50");
        due("18 output stays", output(desk), "-12.50");
        due("18 text grows on", desk.type('7'), true);
        desk.parse(1);
        holds("18 grown text", desk, 1, "-12.507");
        desk.clear();
        write(desk, "0000000000000000000000000000000000000000");
        put(desk, 0, "7");
        due("18 40 characters", desk.format(0), 40);
        desk.clear();
        due("18 40 fit", desk.reuse(), true);
        desk.parse(1);
        holds("18 40 read", desk, 1, "7");
        due("18 full", desk.type('1'), false);
        put(desk, 0, "-7");
        desk.clear();
        write(desk, "0000000000000000000000000000000000000000");
        due("18 41 characters", desk.format(0), 41);
        due("18 41 do not fit", desk.reuse(), false);
        due("18 output stays", output(desk).length(), 41);
        desk.parse(1);
        holds("18 text stays", desk, 1, "0");
    }

    private static String remainder(String a, String b) {
        BigDecimal x = new BigDecimal(a);
        BigDecimal y = new BigDecimal(b);
        return x.remainder(y).setScale(Math.max(x.scale(), y.scale())).toPlainString();
    }
}
