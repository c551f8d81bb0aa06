import java.math.BigDecimal;
import java.math.BigInteger;
import java.math.RoundingMode;

/** The boundary cases that the document's terms name for numbers, registers, placing and operations, sentence by sentence. */
public final class NumberBoundaryTests extends Bench {
    private static final String ZERO_28 = scaled("0", 28);
    private static final String TINY = scaled("1", 28);
    private static final String TENTH_BEYOND = "7922816251426433759354395033.6";

    public static void main(String[] args) {
        coefficientFromNoneToGreatest();
        scaleFromNoneToGreatest();
        zeroIsNeverNegative();
        sixRegistersApart();
        sameRegistersInOperations();
        sameRegistersInRoundAndTrim();
        placedAtNoMoreThan28();
        placedAtNoMoreThanItsPlace();
        placedAtTheGreatestScale();
        placedBelowTheBound();
        powersOfTwo();
        placedToTheNearest();
        placedHalfToTheEvenOne();
        placedNegative();
        placedTooLarge();
        sumAndDifferenceAtTheGreaterScale();
        productAtBothScales();
        quotientByZero();
        quotientBelowTheBound();
        quotientFromItsLeastScale();
        quotientToScale28();
        quotientWithTheLeastScale();
        quotientPlaced();
        remainderCutsTheQuotient();
        remainderByZero();
        remainderKeepsEveryDigit();
        fiveHundredAndTwelveCalls();
        finish();
    }

    private static void coefficientFromNoneToGreatest() {
        sentence("A NUMBER has a COEFFICIENT c, a whole number 0 .. 2^96 - 1");
        for (String number : new String[] {"0", "1", "4294967295", "4294967296", "18446744073709551615", "18446744073709551616",
            "79228162514264337593543950334", GREATEST}) {
            WideDecimalDesk desk = new WideDecimalDesk();
            put(desk, 0, number);
            holds("2 " + number, desk, 0, number);
            parses(number, number);
        }
        computes(SUM, "79228162514264337593543950334", "1", GREATEST);
        computes(DIFFERENCE, "-79228162514264337593543950334", "1", "-" + GREATEST);
        computes(PRODUCT, "26409387504754779197847983445", "3", GREATEST);
        computes(QUOTIENT, GREATEST, "1", GREATEST);
        computes(QUOTIENT, GREATEST, "-1", "-" + GREATEST);
        computes(DIFFERENCE, GREATEST, GREATEST, "0");
        parses(BEYOND, null);
    }

    private static void scaleFromNoneToGreatest() {
        sentence("a SCALE k, 0 .. 28");
        WideDecimalDesk desk = new WideDecimalDesk();
        for (int scale = 0; scale <= 28; scale++) {
            desk.set(0, 9, 0, scale, true);
            due("scale " + scale, desk.scale(0), scale);
            holds("scale " + scale, desk, 0, "-" + scaled("9", scale));
        }
        refuses("scale -1", "IllegalArgumentException", inUse(""), d -> d.set(0, 9, 0, -1, false));
        refuses("scale 29", "IllegalArgumentException", inUse(""), d -> d.set(0, 9, 0, 29, false));
    }

    private static void zeroIsNeverNegative() {
        sentence("may be NEGATIVE, unless c is 0");
        WideDecimalDesk desk = new WideDecimalDesk();
        desk.set(0, 0, 0, 2, true);
        holds("2 set", desk, 0, "0.00");
        desk.set(0, 1, 0, 2, true);
        holds("2 not 0", desk, 0, "-0.01");
        computes(SUM, "-1.5", "1.5", "0.0");
        computes(SUM, "1.5", "-1.5", "0.0");
        computes(SUM, "0.0", "0", "0.0");
        computes(DIFFERENCE, "-1.50", "-1.5", "0.00");
        computes(DIFFERENCE, "0", "0.0", "0.0");
        computes(PRODUCT, "-5.0", "0.00", "0.000");
        computes(PRODUCT, "0", "-5", "0");
        computes(QUOTIENT, "0.0", "-7", "0.0");
        computes(QUOTIENT, "-" + TINY, GREATEST, ZERO_28);
        computes(REMAINDER, "-7.5", "1.25", "0.00");
        computes(REMAINDER, "-7.5", "-7.5", "0.0");
        parses("-0", "0");
        parses("-.000", "0.000");
        for (int mode : new int[] {0, 1, 2, 4}) {
            put(desk, 0, "-0.4");
            desk.round(1, 0, 0, mode);
            holds("9 mode " + mode, desk, 1, "0");
        }
        put(desk, 0, "0.000");
        desk.trim(1, 0);
        holds("10 trim", desk, 1, "0");
    }

    private static void sixRegistersApart() {
        sentence("There are six REGISTERS, 0 .. 5; each holds a number, at first 0 with scale 0");
        WideDecimalDesk desk = new WideDecimalDesk();
        for (int i = 0; i < 6; i++) holds("at first", desk, i, "0");
        for (int written = 0; written < 6; written++) {
            put(desk, written, "-1." + written);
            for (int i = 0; i < 6; i++) holds("register " + i + " after " + written, desk, i, i <= written ? "-1." + i : "0");
        }
    }

    private static void sameRegistersInOperations() {
        sentence("A call that writes into a register reads all its numbers first, so registers may be the same");
        String[] numbers = {"-7.50", "1.25", "3.1250"};
        for (int operation = SUM; operation <= REMAINDER; operation++) {
            for (int choice = 0; choice < 27; choice++) {
                int to = choice / 9;
                int a = choice / 3 % 3;
                int b = choice % 3;
                WideDecimalDesk apart = withNumbers(numbers[a], numbers[b], "0");
                apart.compute(operation, 5, 0, 1);
                WideDecimalDesk desk = withNumbers(numbers);
                desk.compute(operation, to, a, b);
                WideDecimalDesk tried = withNumbers(numbers);
                due("8 attempt", tried.attempt(operation, to, a, b), true);
                for (int i = 0; i < 3; i++) {
                    String held = i == to ? number(apart, 5) : numbers[i];
                    String call = "(" + operation + ", " + to + ", " + a + ", " + b + "), register " + i;
                    holds("7 compute" + call, desk, i, held);
                    holds("8 attempt" + call, tried, i, held);
                }
            }
        }
    }

    private static WideDecimalDesk withNumbers(String... numbers) {
        WideDecimalDesk desk = new WideDecimalDesk();
        for (int i = 0; i < numbers.length; i++) put(desk, i, numbers[i]);
        return desk;
    }

    private static void sameRegistersInRoundAndTrim() {
        sentence("reads all its numbers first, so registers may be the same");
        WideDecimalDesk desk = withNumbers("-7.250", "1.5");
        desk.round(0, 0, 1, 1);
        holds("9 in place", desk, 0, "-7.3");
        put(desk, 0, "-7.250");
        desk.trim(0, 0);
        holds("10 in place", desk, 0, "-7.25");
        due("11 with itself", desk.compare(0, 0), 0);
        holds("9, 10 the other", desk, 1, "1.5");
    }

    private static void placedAtNoMoreThan28() {
        sentence("of the scales 0 .. the lesser of p and 28");
        computes(PRODUCT, scaled("1", 14), scaled("1", 14), TINY);
        computes(PRODUCT, scaled("1", 14), scaled("4", 15), ZERO_28);
        computes(PRODUCT, scaled("1", 14), scaled("6", 15), TINY);
        computes(PRODUCT, TINY, TINY, ZERO_28);
        computes(PRODUCT, ZERO_28, "0.0", ZERO_28);
        parses("0." + "0".repeat(27) + "1", TINY);
        parses("0." + "0".repeat(28) + "4", ZERO_28);
        parses("0." + "0".repeat(28) + "6", TINY);
        parses("." + "0".repeat(39), ZERO_28);
    }

    private static void placedAtNoMoreThanItsPlace() {
        sentence("the lesser of p and 28, the greatest s is taken");
        computes(SUM, "1", "2", "3");
        computes(SUM, "1.50", "2.5", "4.00");
        computes(PRODUCT, "2.0", "3.00", "6.000");
        parses("7", "7");
        parses("7.", "7");
        parses("7.0", "7.0");
    }

    private static void placedAtTheGreatestScale() {
        sentence("the greatest s is taken for which |x| * 10^s, rounded to the nearest whole number, .. is less than 2^96");
        for (int s = 0; s <= 28; s++) {
            String number = "5" + "0".repeat(28 - s);
            computes(SUM, number, ZERO_28, scaled("5" + "0".repeat(28), s));
            computes(DIFFERENCE, "-" + number, ZERO_28, "-" + scaled("5" + "0".repeat(28), s));
        }
        computes(SUM, "7.9", ZERO_28, scaled("79" + "0".repeat(27), 28));
        computes(SUM, "8", ZERO_28, scaled("8" + "0".repeat(27), 27));
        computes(SUM, GREATEST, ZERO_28, GREATEST);
        computes(PRODUCT, GREATEST, "1.0000", GREATEST);
        computes(PRODUCT, scaled(GREATEST, 5), "1.0", scaled(GREATEST, 5));
    }

    private static void placedBelowTheBound() {
        sentence("is less than 2^96");
        parses(GREATEST + ".4999999999", GREATEST);
        parses(GREATEST + ".5", null);
        parses(GREATEST + ".9", null);
        computes(SUM, GREATEST, "0.4", GREATEST);
        computes(SUM, GREATEST, "0.5", null);
        // One scale below, these are the same three numbers; there a scale of 0 is left to them.
        parses("7922816251426433759354395033.549999999", "7922816251426433759354395033.5");
        parses("7922816251426433759354395033.55", "7922816251426433759354395034");
        parses(TENTH_BEYOND, "7922816251426433759354395034");
        parses("7.92281625142643375935439503354999999999", scaled(GREATEST, 28));
        parses("7.92281625142643375935439503355", "7.922816251426433759354395034");
        parses("7.9228162514264337593543950336", "7.922816251426433759354395034");
        computes(PRODUCT, "281474976710656", "281474976710655", "79228162514264056118567239680");
        computes(PRODUCT, "281474976710656", "281474976710656", null);
        computes(PRODUCT, "281474976710656", "28147497671065.6", "7922816251426433759354395034");
        for (int s = 1; s <= 28; s++) {
            computes(PRODUCT, "281474976710656", scaled("281474976710656", s), scaled("7922816251426433759354395034", s - 1));
        }
        // Numbers some of whose bits are all 1 are not yet the greatest.
        parses("79228162514264337589248983039.6", "79228162514264337589248983040");
        parses("79228162495817593519834398719.6", "79228162495817593519834398720");
        parses("18446744073709551615.99999999999999999", "18446744073709551616.000000000");
    }

    private static void powersOfTwo() {
        sentence("is less than 2^96. .. If there is no such scale, x is TOO LARGE");
        for (int i = 0; i < 96; i++) {
            for (int j = 0; j < 96; j++) {
                String result = i + j < 96 ? BigInteger.ONE.shiftLeft(i + j).toString() : null;
                computes(PRODUCT, BigInteger.ONE.shiftLeft(i).toString(), BigInteger.ONE.shiftLeft(j).toString(), result);
            }
        }
    }

    private static void placedToTheNearest() {
        sentence("rounded to the nearest whole number");
        parses("79228162514264337593543950333.4999999999", "79228162514264337593543950333");
        parses("79228162514264337593543950333.5000000001", "79228162514264337593543950334");
        parses("79228162514264337593543950333.9", "79228162514264337593543950334");
        // Digit by digit 2.49 would go to 2.5 and on to 3, and 2.51 to 2.5 and on to 2.
        parses("0." + "0".repeat(27) + "249", scaled("2", 28));
        parses("0." + "0".repeat(27) + "251", scaled("3", 28));
        computes(PRODUCT, scaled("249", 28), "0.01", scaled("2", 28));
        computes(PRODUCT, scaled("251", 28), "0.01", scaled("3", 28));
        computes(PRODUCT, scaled("1" + "0".repeat(26) + "1", 28), scaled("5", 28), TINY);
        computes(PRODUCT, scaled("1" + "0".repeat(27), 28), scaled("5", 28), ZERO_28);
        computes(SUM, "79228162514264337593543950332", scaled("5" + "0".repeat(26) + "1", 28), "79228162514264337593543950333");
        computes(SUM, "79228162514264337593543950332", scaled("5" + "0".repeat(27), 28), "79228162514264337593543950332");
        computes(DIFFERENCE, "79228162514264337593543950333", scaled("5" + "0".repeat(26) + "1", 28), "79228162514264337593543950332");
    }

    private static void placedHalfToTheEvenOne() {
        sentence("a half to the even one");
        for (int digit = 0; digit <= 9; digit++) {
            int even = digit + digit % 2;
            parses("0." + "0".repeat(27) + digit + "5", scaled("" + even, 28));
            parses("-0." + "0".repeat(27) + digit + "5", even == 0 ? ZERO_28 : "-" + scaled("" + even, 28));
            computes(PRODUCT, scaled("" + (10 * digit + 5), 28), "0.1", scaled("" + even, 28));
            computes(SUM, "6000000000000000000000000000" + digit, "0.5",
                new BigInteger("60000000000000000000000000000").add(BigInteger.valueOf(even)).toString());
        }
        computes(QUOTIENT, GREATEST, "2", "39614081257132168796771975168");
        computes(QUOTIENT, "-79228162514264337593543950333", "2", "-39614081257132168796771975166");
        parses("79228162514264337593543950334.5", "79228162514264337593543950334");
    }

    private static void placedNegative() {
        sentence("negative if x is below 0 (and the coefficient not 0)");
        computes(PRODUCT, "-" + TINY, "0.5", ZERO_28);
        computes(PRODUCT, "-" + TINY, "0.51", "-" + TINY);
        computes(PRODUCT, "-" + TINY, "-0.51", TINY);
        computes(QUOTIENT, "-" + TINY, "2", ZERO_28);
        computes(QUOTIENT, "-" + scaled("3", 28), "2", "-" + scaled("2", 28));
        computes(QUOTIENT, TINY, "-1.9", "-" + TINY);
        parses("-0." + "0".repeat(28) + "5", ZERO_28);
        parses("-0." + "0".repeat(28) + "51", "-" + TINY);
        computes(SUM, "-0.1", "0.09", "-0.01");
        computes(DIFFERENCE, "0.09", "0.1", "-0.01");
    }

    private static void placedTooLarge() {
        sentence("If there is no such scale, x is TOO LARGE");
        computes(SUM, GREATEST, "1", null);
        computes(SUM, "-" + GREATEST, "-1", null);
        computes(SUM, GREATEST, GREATEST, null);
        computes(SUM, GREATEST, scaled("5" + "0".repeat(27), 28), null);
        computes(SUM, GREATEST, scaled("4" + "9".repeat(27), 28), GREATEST);
        computes(DIFFERENCE, "-" + GREATEST, "1", null);
        computes(DIFFERENCE, GREATEST, "-0.5", null);
        computes(DIFFERENCE, GREATEST, "-0.49", GREATEST);
        computes(PRODUCT, GREATEST, "2", null);
        computes(PRODUCT, GREATEST, "-" + GREATEST, null);
        computes(PRODUCT, GREATEST, scaled("10000000000000000000000000001", 28), null);
        computes(PRODUCT, GREATEST, scaled("10000000000000000000000000000", 28), GREATEST);
        computes(QUOTIENT, "39614081257132168796771975168", "0.5", null);
        computes(QUOTIENT, GREATEST, scaled("9999999999999999999999999999", 28), null);
        computes(QUOTIENT, "-" + GREATEST, TINY, null);
        parses("-" + BEYOND, null);
        parses("-" + GREATEST + ".5", null);
        parses("-" + GREATEST + ".49", "-" + GREATEST);
        parses("9".repeat(40), null);
        parses("0".repeat(11) + GREATEST, GREATEST);
        parses("0".repeat(11) + BEYOND, null);
    }

    private static void sumAndDifferenceAtTheGreaterScale() {
        sentence("0 SUM a + b and 1 DIFFERENCE a - b are placed at the greater of k and l");
        for (int k = 0; k <= 28; k++) {
            for (int l = 0; l <= 28; l++) {
                BigDecimal a = new BigDecimal(BigInteger.ONE, k);
                BigDecimal b = new BigDecimal(BigInteger.TWO, l);
                computes(SUM, a.toPlainString(), b.toPlainString(), a.add(b).toPlainString());
                computes(DIFFERENCE, a.toPlainString(), b.toPlainString(), a.subtract(b).toPlainString());
                computes(SUM, scaled("0", k), scaled("0", l), scaled("0", Math.max(k, l)));
            }
        }
    }

    private static void productAtBothScales() {
        sentence("2 PRODUCT a * b is placed at k + l");
        for (int k = 0; k <= 28; k++) {
            for (int l = 0; l <= 28; l++) {
                BigDecimal exact = new BigDecimal(BigInteger.valueOf(9), k + l);
                BigDecimal result = exact.setScale(Math.min(k + l, 28), RoundingMode.HALF_EVEN);
                computes(PRODUCT, scaled("3", k), scaled("3", l), result.toPlainString());
                computes(PRODUCT, scaled("0", k), scaled("3", l), scaled("0", Math.min(k + l, 28)));
            }
        }
        computes(PRODUCT, scaled(GREATEST, 28), scaled(GREATEST, 28), "62.771017353866807638357894230");
        computes(PRODUCT, "-" + scaled(GREATEST, 28), GREATEST, null);
        computes(PRODUCT, scaled(GREATEST, 28), "10000000000", scaled(GREATEST, 18));
    }

    private static void quotientByZero() {
        sentence("3 QUOTIENT a / b, b not being 0");
        for (int scale = 0; scale <= 28; scale++) {
            computes(QUOTIENT, "5", scaled("0", scale), null);
            computes(QUOTIENT, "0", scaled("0", scale), null);
        }
        computes(QUOTIENT, "0", TINY, "0");
    }

    private static void quotientBelowTheBound() {
        sentence("a whole number below 2^96 (its sign left out) divided by 10^s");
        computes(QUOTIENT, GREATEST, "10", scaled(GREATEST, 1));
        computes(QUOTIENT, GREATEST, "-1" + "0".repeat(28), "-" + scaled(GREATEST, 28));
        computes(QUOTIENT, "3961408125713216879677197516.7", "0.5", "7922816251426433759354395033.4");
        // These are exactly 2^96 divided by 10 or 100, and so must be placed.
        computes(QUOTIENT, "3961408125713216879677197516.8", "0.5", "7922816251426433759354395034");
        computes(QUOTIENT, "-3961408125713216879677197516.8", "0.5", "-7922816251426433759354395034");
        computes(QUOTIENT, "3961408125713216879677197516.8", "-5.0", "-792281625142643375935439503.4");
        computes(QUOTIENT, "39614081257132168796771975168", "0.5", null);
        computes(QUOTIENT, "-39614081257132168796771975168", "0.5", null);
    }

    private static void quotientFromItsLeastScale() {
        sentence("for some s from the greater of 0 and k - l");
        for (int k = 0; k <= 28; k++) {
            for (int l = 0; l <= 28; l++) {
                String result = k >= l ? scaled("2", k - l) : "2" + "0".repeat(l - k);
                computes(QUOTIENT, scaled("6", k), scaled("3", l), result);
                computes(QUOTIENT, scaled("0", k), scaled("3", l), scaled("0", Math.max(0, k - l)));
            }
        }
    }

    private static void quotientToScale28() {
        sentence("for some s from the greater of 0 and k - l to 28");
        computes(QUOTIENT, "1", "268435456", scaled("37252902984619140625", 28));
        computes(QUOTIENT, "1", "536870912", scaled("18626451492309570312", 28));
        computes(QUOTIENT, "3", "536870912", scaled("55879354476928710938", 28));
        computes(QUOTIENT, GREATEST, "1" + "0".repeat(28), scaled(GREATEST, 28));
        computes(QUOTIENT, scaled(GREATEST, 1), "1" + "0".repeat(28), scaled("7922816251426433759354395034", 28));
        computes(QUOTIENT, scaled("8", 28), "8", TINY);
        computes(QUOTIENT, scaled("8", 28), "80", ZERO_28);
    }

    private static void quotientWithTheLeastScale() {
        sentence("it gets that coefficient and the least such s");
        computes(QUOTIENT, "1", "8", "0.125");
        computes(QUOTIENT, "1.00", "8", "0.125");
        computes(QUOTIENT, "1.000", "8", "0.125");
        computes(QUOTIENT, "1.0000", "8", "0.1250");
        computes(QUOTIENT, "1.000", "8.0", "0.125");
        computes(QUOTIENT, "1", "8.000", "0.125");
        computes(QUOTIENT, "100", "5", "20");
        computes(QUOTIENT, "10", "4", "2.5");
        computes(QUOTIENT, "10", "100", "0.1");
    }

    private static void quotientPlaced() {
        sentence("otherwise it is placed at 28");
        computes(QUOTIENT, "1", "3", "0." + "3".repeat(28));
        computes(QUOTIENT, "2", "-3", "-0." + "6".repeat(27) + "7");
        computes(QUOTIENT, "10", "3", "3." + "3".repeat(28));
        computes(QUOTIENT, "100", "3", "33." + "3".repeat(27));
        computes(QUOTIENT, "20000000000000000000000000000", "3", "6666666666666666666666666666.7");
        computes(QUOTIENT, TINY, "3", ZERO_28);
        computes(QUOTIENT, scaled("2", 28), "3", TINY);
        computes(QUOTIENT, "7", GREATEST, TINY);
        // 2^96 - 1 and 5/17, and 2^96 - 1 and 5/7.
        computes(QUOTIENT, "13468787627424937390902471557", "0.17", GREATEST);
        computes(QUOTIENT, "55459713759985036315480765235", "0.7", null);
        computes(QUOTIENT, "55459713759985036315480765235", "7", "7922816251426433759354395034");
    }

    private static void remainderCutsTheQuotient() {
        sentence("4 REMAINDER a - b * t, t being a / b without what stands behind its point");
        computes(REMAINDER, "7", "3", "1");
        computes(REMAINDER, "-7", "3", "-1");
        computes(REMAINDER, "7", "-3", "1");
        computes(REMAINDER, "-7", "-3", "-1");
        computes(REMAINDER, "2.99", "3", "2.99");
        computes(REMAINDER, "-2.99", "3", "-2.99");
        computes(REMAINDER, "3", "3.00", "0.00");
        computes(REMAINDER, "3.01", "-3", "0.01");
        computes(REMAINDER, "0.0", "-3", "0.0");
    }

    private static void remainderByZero() {
        sentence("t being a / b without what stands behind its point, b not being 0");
        for (int scale = 0; scale <= 28; scale++) {
            computes(REMAINDER, "5", scaled("0", scale), null);
            computes(REMAINDER, "0", scaled("0", scale), null);
        }
        computes(REMAINDER, "0", TINY, ZERO_28);
    }

    private static void remainderKeepsEveryDigit() {
        sentence("it is placed at the greater of k and l (where it is never rounded nor too large)");
        String[] coefficients = {"1", "7", "4294967291", "18446744073709551557", "39614081257132168796771975169", GREATEST};
        for (String a : coefficients) {
            for (String b : coefficients) {
                for (int k = 0; k <= 28; k += 7) {
                    for (int l = 0; l <= 28; l += 7) {
                        BigDecimal x = new BigDecimal(new BigInteger(a), k);
                        BigDecimal y = new BigDecimal(new BigInteger(b), l);
                        BigDecimal rest = x.remainder(y).setScale(Math.max(k, l));
                        computes(REMAINDER, x.toPlainString(), y.toPlainString(), rest.toPlainString());
                    }
                }
            }
        }
    }

    private static void fiveHundredAndTwelveCalls() {
        sentence("An object is used for at most 512 calls after it has been made");
        WideDecimalDesk desk = new WideDecimalDesk();
        desk.set(1, 1, 0, 28, true);
        for (int call = 2; call <= 508; call++) {
            if (call % 2 == 0) {
                desk.compute(SUM, 0, 0, 1);
            } else {
                due("call " + call, desk.low(0), (long) (call / 2));
            }
        }
        holds("calls 509 to 512", desk, 0, "-" + scaled("254", 28));
    }
}
