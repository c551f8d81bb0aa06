import java.util.regex.Pattern;

/** The boundary cases that the document's terms name for patterns and for what is written by them, sentence by sentence. */
public final class PatternBoundaryTests extends Bench {
    private static final Pattern FORM = Pattern.compile("(?=.*[0#])[0#,]*(\\.[0#]*)?%?");

    public static void main(String[] args) {
        frontOfAnyLength();
        backOfAnyLength();
        percentAtMostOnceAtTheEnd();
        aPlaceSomewhere();
        everyShortText();
        everyCharacter();
        hundredfoldWithPercent();
        roundedToTheBack();
        halfAwayFromZero();
        noDigitsOfAWholePartOfZero();
        zerosPutBefore();
        noZerosWithoutAZeroInTheFront();
        groupedByACommaBetweenPlaces();
        commaBeforeEveryThirdDigit();
        digitsOfTheBack();
        zerosTakenAway();
        minusSign();
        pointOnlyBeforeDigits();
        percentWritten();
        onePatternAfterAnother();
        longestOutput();
        finish();
    }

    private static void noPattern(String text) {
        refuses("16 '" + text + "'", "IllegalStateException", inUse(text), desk -> desk.format(0));
    }

    private static void frontOfAnyLength() {
        sentence("first any number of '0', '#' and ',' (the FRONT)");
        formats(".0", "5", "5.0");
        formats("0", "5", "5");
        formats("#", "5", "5");
        formats(",,,0,,,", "5", "5");
        formats("0".repeat(40), "5", "0".repeat(39) + "5");
        formats("#".repeat(40), "5", "5");
        formats(",".repeat(39) + "0", "5", "5");
    }

    private static void backOfAnyLength() {
        sentence("then perhaps '.' and behind it any number of '0' and '#' (the BACK)");
        formats("0.", "5.5", "6");
        formats("0.0", "5.5", "5.5");
        formats("." + "0".repeat(39), "5.5", "5.5" + "0".repeat(38));
        formats("." + "#".repeat(39), "5.5", "5.5");
        noPattern("0.0.0");
        noPattern("0..");
        noPattern("0.,0");
        noPattern("0.0,");
    }

    private static void percentAtMostOnceAtTheEnd() {
        sentence("then perhaps '%'");
        formats("0%", "5", "500%");
        formats("0.%", "5", "500%");
        formats(".0%", "5", "500.0%");
        formats("0".repeat(39) + "%", "5", "0".repeat(36) + "500%");
        noPattern("0%%");
        noPattern("%0");
        noPattern("0%.0");
        noPattern("0.0%0");
    }

    private static void aPlaceSomewhere() {
        sentence("with a '0' or '#' at least somewhere");
        noPattern("");
        noPattern(",");
        noPattern(".");
        noPattern("%");
        noPattern(",.%");
        noPattern(",".repeat(40));
        formats(",.#%", "0.5", "50%");
        formats("#.", "5", "5");
        formats(".#", "5", "5");
    }

    private static void everyShortText() {
        sentence("A PATTERN is a text of this form");
        char[] letters = {'0', '#', ',', '.', '%', '-', '1'};
        for (int length = 0; length <= 5; length++) {
            int texts = (int) Math.pow(letters.length, length);
            for (int choice = 0; choice < texts; choice++) {
                StringBuilder text = new StringBuilder();
                for (int rest = choice; text.length() < length; rest /= letters.length) text.append(letters[rest % letters.length]);
                isPatternByForm(text.toString());
            }
        }
    }

    private static void everyCharacter() {
        sentence("A PATTERN is a text of this form: .. '0', '#' and ',' .. '.' .. '%'");
        for (char c = 32; c <= 126; c++) {
            for (String text : new String[] {"" + c, c + "0", "0" + c, "0" + c + "0", "0." + c, "0." + c + "0", "0%" + c, "0.0%" + c}) {
                isPatternByForm(text);
            }
        }
    }

    private static void isPatternByForm(String text) {
        WideDecimalDesk desk = new WideDecimalDesk();
        for (char c : text.toCharArray()) desk.type(c);
        due("16 '" + text + "'", thrown(() -> desk.format(0)), FORM.matcher(text).matches() ? "nothing" : "IllegalStateException");
    }

    private static void hundredfoldWithPercent() {
        sentence("v is |a|, or 100 * |a| where the pattern has '%'");
        formats("#%", GREATEST, GREATEST + "00%");
        formats("#%", "-" + GREATEST, "-" + GREATEST + "00%");
        formats("#", GREATEST, GREATEST);
        formats("0.##%", "0.0001", "0.01%");
        formats("0." + "0".repeat(26) + "%", scaled("1", 28), "0." + "0".repeat(25) + "1%");
        formats("0%", "0", "0%");
    }

    private static void roundedToTheBack() {
        sentence("it is rounded to as many digits behind the point as the back has characters");
        formats("0", "1.49", "1");
        formats("0.0", "1.49", "1.5");
        formats("0.##", "1.49", "1.49");
        formats("0.###", "1.49", "1.49");
        formats("0." + "#".repeat(27), "1." + "0".repeat(27) + "4", "1");
        formats("0." + "#".repeat(27), "1." + "0".repeat(27) + "6", "1." + "0".repeat(26) + "1");
        formats("0." + "#".repeat(28), "1." + "0".repeat(27) + "4", "1." + "0".repeat(27) + "4");
        formats("0." + "#".repeat(29), "1." + "0".repeat(27) + "4", "1." + "0".repeat(27) + "4");
        formats("0%", "0.0149", "1%");
        formats("0.0%", "0.0149", "1.5%");
        formats("0.0", "9.96", "10.0");
        formats("#.#", "999.96", "1000");
        formats("#,#.#", "999.96", "1,000");
    }

    private static void halfAwayFromZero() {
        sentence("a half away from 0");
        formats("0", "0.5", "1");
        formats("0", "1.5", "2");
        formats("0", "-2.5", "-3");
        formats("0", "2.4" + "9".repeat(27), "2");
        formats("0.0", "0.05", "0.1");
        formats("0.0", "0.15", "0.2");
        formats("0.0", "-0.25", "-0.3");
        formats("0.0", "0.249", "0.2");
        formats("0%", "0.005", "1%");
        formats("0%", "-0.025", "-3%");
        formats("#", scaled("5" + "0".repeat(27), 28), "1");
        formats("#", scaled("4" + "9".repeat(27), 28), "");
    }

    private static void noDigitsOfAWholePartOfZero() {
        sentence("those of the whole part of v, none if that is 0");
        formats("#.0", "0.9", ".9");
        formats("#.0", "0.96", "1.0");
        formats("#.0", "1", "1.0");
        formats("#", "0", "");
        formats("#,#.00", "0.25", ".25");
        formats("#.#%", "0.009", ".9%");
        formats("#.#%", "0.01", "1%");
    }

    private static void zerosPutBefore() {
        sentence("zeros are put before them until there are as many as the front has '0' and '#' from its first '0' on");
        formats("0", "0", "0");
        formats("000", "0", "000");
        formats("000", "12", "012");
        formats("000", "123", "123");
        formats("000", "1234", "1234");
        formats("##0", "7", "7");
        formats("#0#", "7", "07");
        formats("0##", "7", "007");
        formats("0,#,#", "7", "007");
        formats("#,0,#", "7", "07");
        formats("#0#.0", "0.25", "00.3");
        formats("0".repeat(40), "-1", "-" + "0".repeat(39) + "1");
        formats("0".repeat(29), GREATEST, GREATEST);
        formats("0".repeat(30), GREATEST, "0" + GREATEST);
    }

    private static void noZerosWithoutAZeroInTheFront() {
        sentence("(none if it has no '0')");
        formats("###", "0", "");
        formats("###", "7", "7");
        formats("###.0", "0", ".0");
        formats(",.0", "0", ".0");
        formats(".00", "7", "7.00");
    }

    private static void groupedByACommaBetweenPlaces() {
        sentence("some ',' has a '0' or '#' of the front somewhere before it and one of the front somewhere behind it");
        for (String pattern : new String[] {"#,#", "0,0", "#,0", "0,#", "##,,##", ",#,#,", "#,,,0", "#,#,", "#####,#", "#,#####"}) {
            formats(pattern, "1234567", "1,234,567");
        }
        for (String pattern : new String[] {"##", ",##", "##,", ",##,", ",,##,,", "#,.#", ",#.#", "#,.0#", ",.##", "0,", ",0"}) {
            formats(pattern, "1234567", pattern.contains(".0") ? "1234567.0" : "1234567");
        }
        formats("#,%", "12345", "1234500%");
        formats("#,#%", "12345", "1,234,500%");
    }

    private static void commaBeforeEveryThirdDigit() {
        sentence("a ',' is put before every third of these digits counted from the point, where another digit stands to the left");
        String[] outputs = {"1", "12", "123", "1,234", "12,345", "123,456", "1,234,567", "12,345,678", "123,456,789", "1,234,567,891"};
        for (String output : outputs) {
            formats("#,#", output.replace(",", ""), output);
            formats("#,#.0", "-" + output.replace(",", ""), "-" + output + ".0");
        }
        formats("#,#", "0", "");
        formats("0,00", "0", "000");
        formats("0,000", "0", "0,000");
        formats("0,00000", "7", "000,007");
        formats("0,000000", "7", "0,000,007");
        formats("0,0.0000000", "1.2345678", "01.2345678");
        formats("#,#", GREATEST, "79,228,162,514,264,337,593,543,950,335");
        formats("0," + "0".repeat(38), "5", "000,".repeat(12) + "005");
        formats("#,#.####", "0.1234", ".1234");
    }

    private static void digitsOfTheBack() {
        sentence("The digits behind the point: as many as the back has characters");
        formats("0.0", "1", "1.0");
        formats("0.000", "1.5", "1.500");
        formats("0.000", "1.23456", "1.235");
        formats(".0", "0", ".0");
        formats("0." + "0".repeat(38), scaled("1", 28), "0." + "0".repeat(27) + "1" + "0".repeat(10));
    }

    private static void zerosTakenAway() {
        sentence("those at the end that are 0 are taken away, but not those that stand at the place of the back's last '0' or before it");
        formats("0.##", "1.00", "1");
        formats("0.##", "1.50", "1.5");
        formats("0.##", "1.05", "1.05");
        formats("0.0#", "1", "1.0");
        formats("0.#0", "1", "1.00");
        formats("0.#0#", "1", "1.00");
        formats("0.#0#", "1.001", "1.001");
        formats("0.0##", "1.0100", "1.01");
        formats("0.###0", "1.5", "1.5000");
        formats("0.##", "1.004", "1");
        formats("0.##", "1.996", "2");
        formats("0." + "#".repeat(38), "1." + "0".repeat(28), "1");
        formats("#0.#", "100", "100");
    }

    private static void minusSign() {
        sentence("The output is '-' if a is negative and the rounded v is not 0");
        formats("0", "-0.4", "0");
        formats("0", "-0.5", "-1");
        formats("#", "-0.4", "");
        formats("#", "-0.5", "-1");
        formats("0.0", "-0.049", "0.0");
        formats("0.0", "-0.05", "-0.1");
        formats("0%", "-0.004", "0%");
        formats("0%", "-0.005", "-1%");
        formats(".0", "-0.1", "-.1");
        formats("0", "0.5", "1");
        formats("000", "-7", "-007");
    }

    private static void pointOnlyBeforeDigits() {
        sentence("'.' and the digits behind it, if there are any left behind it");
        formats("0.", "7", "7");
        formats("0.#", "7", "7");
        formats("0.#", "7.1", "7.1");
        formats(".#", "0.04", "");
        formats(".#", "0.05", ".1");
        formats("0.%", "0.07", "7%");
        formats("#.#%", "0", "%");
    }

    private static void percentWritten() {
        sentence("'%' if the pattern has it (so perhaps no character at all)");
        formats("#", "0", "");
        formats("#.##", "-0.004", "");
        formats("#,#", "0.00", "");
        formats("#%", "0", "%");
        formats("#%", "-0.0049", "%");
        formats(".#%", "0.001", ".1%");
        WideDecimalDesk desk = new WideDecimalDesk();
        put(desk, 0, "12.5");
        desk.show(0);
        write(desk, "#");
        due("16 no character", desk.format(1), 0);
        due("17 none there", desk.at(0), -1);
        due("18 the empty output is reused", desk.reuse(), true);
        due("18 the text is empty", thrown(() -> desk.format(1)), "IllegalStateException");
    }

    private static void onePatternAfterAnother() {
        sentence("A number a is written by it so (whatever pattern was the one before)");
        WideDecimalDesk desk = new WideDecimalDesk();
        put(desk, 0, "-1234.5");
        String[] patterns = {"0,000000.000%", ".#", "0,0.00", ".", "#", "0,0.00%%", ".##", "#%", "000000", "#.#", "#,#.0", ",.#"};
        String[] outputs = {"-0,123,450.000%", "-1234.5", "-1,234.50", null, "-1235", null, "-1234.5", "-123450%", "-001235", "-1234.5",
            "-1,234.5", "-1234.5"};
        for (int i = 0; i < patterns.length; i++) {
            write(desk, patterns[i]);
            due("16 '" + patterns[i] + "'", thrown(() -> desk.format(0)), outputs[i] == null ? "IllegalStateException" : "nothing");
            if (outputs[i] != null) due("16 '" + patterns[i] + "'", output(desk), outputs[i]);
        }
    }

    private static void longestOutput() {
        sentence("the OUTPUT is a list of characters (which 40 characters of pattern make 79 long at most)");
        formats("#,#." + "0".repeat(35) + "%", "-" + GREATEST,
            "-7,922,816,251,426,433,759,354,395,033,500." + "0".repeat(35) + "%");
        formats("#,#." + "0".repeat(36), "-" + GREATEST, "-79,228,162,514,264,337,593,543,950,335." + "0".repeat(36));
        formats("#." + "0".repeat(38), GREATEST, GREATEST + "." + "0".repeat(38));
        formats("0,." + "0".repeat(37), "-" + scaled(GREATEST, 28), "-7.9228162514264337593543950335" + "0".repeat(9));
    }
}
