import java.math.BigDecimal;
import java.math.BigInteger;
import java.math.RoundingMode;
import java.util.Random;

/**
 * Plays runs of calls on the class and on a model that follows the document's words with exact fractions, and compares
 * answers and state after every call. The seeds are fixed: every run of this test makes the same calls.
 */
public final class ModelTests {
    private static final int RUNS = 60000;
    // The document's 512 calls an object, less what one step with its comparing may take.
    private static final int CALLS = 512 - 170;
    private static final BigInteger BOUND = BigInteger.ONE.shiftLeft(96);

    private static int wrong = 0;

    public static void main(String[] args) {
        for (int run = 0; run < RUNS && wrong < 20; run++) {
            new Run(run).play();
        }
        System.out.println(wrong == 0 ? "all runs agree with the model" : wrong + " calls differ from the model");
        if (wrong != 0) System.exit(1);
    }

    /** The document, told again with BigInteger and BigDecimal. */
    private static final class Model {
        final BigInteger[] coefficient = new BigInteger[6];
        final int[] scale = new int[6];
        final boolean[] negative = new boolean[6];
        String text = "";
        String output = "";
        // What place or divide answers.
        BigInteger placed;
        int placedScale;

        Model() {
            for (int i = 0; i < 6; i++) coefficient[i] = BigInteger.ZERO;
        }

        static boolean isRegister(int register) {
            return 0 <= register && register <= 5;
        }

        void hold(int register, BigInteger c, int k, boolean below) {
            coefficient[register] = c;
            scale[register] = k;
            negative[register] = below && c.signum() != 0;
        }

        BigDecimal value(int register) {
            return new BigDecimal(negative[register] ? coefficient[register].negate() : coefficient[register], scale[register]);
        }

        /** Places |n / d| at p. */
        boolean place(BigInteger n, BigInteger d, int p) {
            for (int s = Math.min(p, 28); s >= 0; s--) {
                BigInteger[] parts = n.abs().multiply(BigInteger.TEN.pow(s)).divideAndRemainder(d.abs());
                int half = parts[1].shiftLeft(1).compareTo(d.abs());
                BigInteger rounded = half > 0 || half == 0 && parts[0].testBit(0) ? parts[0].add(BigInteger.ONE) : parts[0];
                if (rounded.compareTo(BOUND) < 0) {
                    placed = rounded;
                    placedScale = s;
                    return true;
                }
            }
            return false;
        }

        /** The numerator of a number as a fraction of 10^-56. */
        static BigInteger fraction(BigDecimal x) {
            return x.movePointRight(56).toBigIntegerExact();
        }

        String compute(int operation, int to, int a, int b) {
            if (operation < 0 || operation > 4 || !isRegister(to) || !isRegister(a) || !isRegister(b)) {
                return "IllegalArgumentException";
            }
            BigDecimal x = value(a);
            BigDecimal y = value(b);
            int k = scale[a];
            int l = scale[b];
            if (operation >= 3 && y.signum() == 0) return "ArithmeticException";
            BigInteger unit = BigInteger.TEN.pow(56);
            BigInteger n;
            boolean done;
            switch (operation) {
                case 0:
                    n = fraction(x.add(y));
                    done = place(n, unit, Math.max(k, l));
                    break;
                case 1:
                    n = fraction(x.subtract(y));
                    done = place(n, unit, Math.max(k, l));
                    break;
                case 2:
                    n = fraction(x.multiply(y));
                    done = place(n, unit, k + l);
                    break;
                case 3:
                    n = fraction(x).multiply(BigInteger.valueOf(y.signum()));
                    done = quotient(fraction(x).abs(), fraction(y).abs(), Math.max(0, k - l));
                    break;
                default:
                    n = fraction(x).remainder(fraction(y));
                    done = place(n, unit, Math.max(k, l));
            }
            if (!done) return "ArithmeticException";
            hold(to, placed, placedScale, n.signum() < 0);
            return "nothing";
        }

        boolean quotient(BigInteger n, BigInteger d, int least) {
            for (int s = least; s <= 28; s++) {
                BigInteger[] parts = n.multiply(BigInteger.TEN.pow(s)).divideAndRemainder(d);
                if (parts[1].signum() == 0 && parts[0].compareTo(BOUND) < 0) {
                    placed = parts[0];
                    placedScale = s;
                    return true;
                }
            }
            return place(n, d, 28);
        }

        String round(int to, int a, int digits, int mode) {
            if (!isRegister(to) || !isRegister(a) || digits < 0 || digits > 28 || mode < 0 || mode > 4) {
                return "IllegalArgumentException";
            }
            RoundingMode[] modes = {RoundingMode.HALF_EVEN, RoundingMode.HALF_UP, RoundingMode.DOWN, RoundingMode.FLOOR, RoundingMode.CEILING};
            BigDecimal x = scale[a] > digits ? value(a).setScale(digits, modes[mode]) : value(a);
            hold(to, x.unscaledValue().abs(), x.scale(), x.signum() < 0);
            return "nothing";
        }

        String trim(int to, int a) {
            if (!isRegister(to) || !isRegister(a)) return "IllegalArgumentException";
            BigDecimal x = value(a).stripTrailingZeros();
            if (x.scale() < 0) x = x.setScale(0);
            hold(to, x.unscaledValue().abs(), x.scale(), x.signum() < 0);
            return "nothing";
        }

        String parse(int register) {
            if (!isRegister(register)) return "IllegalArgumentException";
            if (!text.matches("-?([0-9]+\\.?[0-9]*|\\.[0-9]+)")) return "IllegalStateException";
            BigDecimal x = new BigDecimal(text);
            int point = text.indexOf('.');
            int behind = point < 0 ? 0 : text.length() - point - 1;
            if (!place(fraction(x), BigInteger.TEN.pow(56), behind)) return "ArithmeticException";
            hold(register, placed, placedScale, x.signum() < 0);
            return "nothing";
        }

        void show(int register) {
            output = (negative[register] ? "-" : "") + value(register).abs().toPlainString();
        }

        boolean isPattern() {
            return text.matches("[0#,]*(\\.[0#]*)?%?") && (text.indexOf('0') >= 0 || text.indexOf('#') >= 0);
        }

        void format(int register) {
            boolean percent = text.endsWith("%");
            String body = percent ? text.substring(0, text.length() - 1) : text;
            int point = body.indexOf('.');
            String front = point < 0 ? body : body.substring(0, point);
            String back = point < 0 ? "" : body.substring(point + 1);
            BigDecimal v = value(register).abs();
            if (percent) v = v.multiply(BigDecimal.valueOf(100));
            v = v.setScale(back.length(), RoundingMode.HALF_UP);
            String plain = v.toPlainString();
            String before = back.isEmpty() ? plain : plain.substring(0, plain.length() - back.length() - 1);
            String behind = back.isEmpty() ? "" : plain.substring(plain.length() - back.length());
            if (before.equals("0")) before = "";
            String places = front.replace(",", "");
            int least = places.indexOf('0') < 0 ? 0 : places.length() - places.indexOf('0');
            while (before.length() < least) before = "0" + before;
            if (front.matches(".*[0#].*,.*[0#].*")) before = group(before);
            while (behind.length() > back.lastIndexOf('0') + 1 && behind.endsWith("0")) behind = behind.substring(0, behind.length() - 1);
            output = (negative[register] && v.signum() != 0 ? "-" : "") + before + (behind.isEmpty() ? "" : "." + behind) + (percent ? "%" : "");
        }

        static String group(String figures) {
            return figures.length() <= 3 ? figures
                : group(figures.substring(0, figures.length() - 3)) + "," + figures.substring(figures.length() - 3);
        }
    }

    /** One run: a new object, a new model, and the calls that the seed gives. */
    private static final class Run {
        final int number;
        final Random dice;
        final WideDecimalDesk desk = new WideDecimalDesk();
        final Model model = new Model();
        String call = "";
        int calls = 0;

        Run(int number) {
            this.number = number;
            dice = new Random(9973L * number + 1);
        }

        void play() {
            for (int i = 0; i < 6; i++) stepSet();
            while (calls < CALLS && wrong < 20) {
                step();
                compareState();
            }
        }

        int register() {
            return dice.nextInt(60) == 0 ? new int[] {-1, 6, 77, Integer.MIN_VALUE}[dice.nextInt(4)] : dice.nextInt(6);
        }

        int upTo(int greatest) {
            return dice.nextInt(60) == 0 ? (dice.nextBoolean() ? -1 : greatest + 1) : dice.nextInt(greatest + 1);
        }

        /** Small ones, near powers of ten and two, near the bound, and any. */
        BigInteger coefficient() {
            BigInteger near = BigInteger.valueOf(dice.nextInt(21) - 10);
            BigInteger c;
            switch (dice.nextInt(8)) {
                case 0: c = BigInteger.valueOf(dice.nextInt(20)); break;
                case 1: c = BigInteger.TEN.pow(dice.nextInt(29)).multiply(BigInteger.valueOf(1 + dice.nextInt(9))).add(near); break;
                case 2: c = BigInteger.ONE.shiftLeft(dice.nextInt(97)).add(near); break;
                case 3: c = BOUND.subtract(BigInteger.valueOf(1 + dice.nextInt(12))); break;
                case 4: c = BOUND.divide(BigInteger.TEN.pow(dice.nextInt(29))).add(near); break;
                case 5: c = BigInteger.valueOf(5).pow(dice.nextInt(41)).shiftLeft(dice.nextInt(10)); break;
                case 6: c = new BigInteger(dice.nextInt(97), dice); break;
                default: c = new BigInteger(96, dice);
            }
            return c.max(BigInteger.ZERO).min(BOUND.subtract(BigInteger.ONE));
        }

        void step() {
            switch (dice.nextInt(14)) {
                case 0: case 1: case 2: case 3: stepSet(); break;
                case 4: case 5: case 6: case 7: stepCompute(); break;
                case 8: stepRound(); break;
                case 9: stepTrimOrCompare(); break;
                case 10: stepParse(); break;
                case 11: stepShow(); break;
                case 12: stepFormat(); break;
                default: stepText();
            }
        }

        void stepSet() {
            int r = register();
            int k = dice.nextInt(3) == 0 ? 0 : upTo(28);
            BigInteger c = coefficient();
            boolean below = dice.nextBoolean();
            call = "set(" + r + ", " + c + ", " + k + ", " + below + ")";
            boolean good = Model.isRegister(r) && 0 <= k && k <= 28;
            String got = thrown(() -> desk.set(r, c.longValue(), c.shiftRight(64).intValue(), k, below));
            due(got, good ? "nothing" : "IllegalArgumentException");
            if (good) model.hold(r, c, k, below);
        }

        void stepCompute() {
            int operation = upTo(4);
            int to = register();
            int a = register();
            int b = register();
            call = "operation " + operation + " of " + named(a) + " and " + named(b) + " into " + to;
            String want = model.compute(operation, to, a, b);
            if (dice.nextBoolean()) {
                due(desk.attempt(operation, to, a, b), want.equals("nothing"));
            } else {
                due(thrown(() -> desk.compute(operation, to, a, b)), want);
            }
        }

        void stepRound() {
            int to = register();
            int a = register();
            int digits = upTo(28);
            int mode = upTo(4);
            call = "round(" + to + ", " + named(a) + ", " + digits + ", " + mode + ")";
            String want = model.round(to, a, digits, mode);
            due(thrown(() -> desk.round(to, a, digits, mode)), want);
        }

        void stepTrimOrCompare() {
            int a = register();
            int b = register();
            if (dice.nextBoolean()) {
                call = "trim(" + a + ", " + named(b) + ")";
                String want = model.trim(a, b);
                due(thrown(() -> desk.trim(a, b)), want);
                return;
            }
            call = "compare(" + named(a) + ", " + named(b) + ")";
            if (Model.isRegister(a) && Model.isRegister(b)) {
                due(desk.compare(a, b), model.value(a).compareTo(model.value(b)));
            } else {
                due(thrown(() -> desk.compare(a, b)), "IllegalArgumentException");
            }
        }

        void stepParse() {
            if (dice.nextInt(8) != 0) {
                String plain = (dice.nextBoolean() ? "-" : "") + coefficient() + (dice.nextBoolean() ? coefficient() : "");
                int point = 1 + dice.nextInt(plain.length());
                if (dice.nextInt(4) == 0) point = Math.min(plain.length(), 29 + dice.nextInt(3));
                write(dice.nextInt(4) == 0 ? plain : plain.substring(0, point) + "." + plain.substring(point));
            }
            int r = register();
            call = "parse(" + r + ") of '" + model.text + "'";
            String want = model.parse(r);
            due(thrown(() -> desk.parse(r)), want);
        }

        void stepShow() {
            int r = register();
            call = "show(" + named(r) + ")";
            if (Model.isRegister(r)) {
                model.show(r);
                due(desk.show(r), model.output.length());
            } else {
                due(thrown(() -> desk.show(r)), "IllegalArgumentException");
            }
        }

        void stepFormat() {
            if (dice.nextInt(8) != 0) write(pattern());
            int r = register();
            call = "format(" + named(r) + ") by '" + model.text + "'";
            if (!Model.isRegister(r)) {
                due(thrown(() -> desk.format(r)), "IllegalArgumentException");
            } else if (!model.isPattern()) {
                due(thrown(() -> desk.format(r)), "IllegalStateException");
            } else {
                model.format(r);
                due(desk.format(r), model.output.length());
            }
        }

        String pattern() {
            int longest = dice.nextInt(4) == 0 ? 36 : 7;
            String kinds = new String[] {"0#,", "0#,", "#", "0", "##0", "##,", ",0"}[dice.nextInt(7)];
            String front = some(kinds, dice.nextInt(longest));
            String back = some(new String[] {"0#", "0", "#", "###0"}[dice.nextInt(4)], dice.nextInt(longest));
            String all = front + (dice.nextInt(3) == 0 ? "" : "." + back) + (dice.nextInt(3) == 0 ? "%" : "");
            return dice.nextInt(12) == 0 ? all + some("0#,.%-1 ", 2) : all;
        }

        String some(String kinds, int length) {
            StringBuilder all = new StringBuilder();
            for (int i = 0; i < length; i++) all.append(kinds.charAt(dice.nextInt(kinds.length())));
            return all.toString();
        }

        void stepText() {
            switch (dice.nextInt(4)) {
                case 0:
                    call = "clear()";
                    desk.clear();
                    calls++;
                    model.text = "";
                    break;
                case 1:
                    type((char) dice.nextInt(dice.nextBoolean() ? 140 : 65536));
                    break;
                default:
                    call = "reuse() of '" + model.output + "'";
                    boolean fits = model.output.length() <= 40;
                    due(desk.reuse(), fits);
                    if (fits) model.text = model.output;
            }
        }

        void write(String text) {
            desk.clear();
            calls++;
            model.text = "";
            for (char c : text.toCharArray()) type(c);
        }

        void type(char c) {
            call = "type(" + (int) c + ")";
            boolean fits = c >= 32 && c <= 126 && model.text.length() < 40;
            due(desk.type(c), fits);
            if (fits) model.text += c;
        }

        String named(int register) {
            return register + (Model.isRegister(register) ? " (" + model.value(register).toPlainString() + ")" : "");
        }

        void compareState() {
            for (int i = 0; i < 6; i++) {
                due(desk.low(i), model.coefficient[i].longValue());
                due(desk.high(i), model.coefficient[i].shiftRight(64).intValue());
                due(desk.scale(i), model.scale[i]);
                due(desk.negative(i), model.negative[i]);
            }
            for (int i = 0; i < model.output.length(); i++) due(desk.at(i), (int) model.output.charAt(i));
            due(desk.at(-1), -1);
            due(desk.at(model.output.length()), -1);
        }

        /** Stands behind every call but clear, so it counts them. */
        void due(Object got, Object want) {
            calls++;
            if (!got.equals(want)) {
                wrong++;
                System.out.println("run " + number + ": " + call + ": " + got + ", due is " + want);
            }
        }
    }

    private interface Call { void run(); }

    private static String thrown(Call call) {
        try {
            call.run();
            return "nothing";
        } catch (RuntimeException e) {
            return e.getClass().getSimpleName();
        }
    }
}
